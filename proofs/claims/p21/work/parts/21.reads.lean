/-- how many answers of a party stand -/
def cSt (sg : Nat → Nat → Nat → Int32) (rc : Nat → Bool) (p : Nat) : Nat → Nat
  | 0 => 0
  | a + 1 => cSt sg rc p a + (if !rc a && decide (sg 7 a 0 = nI p) then 1 else 0)
theorem cSt_le {sg : Nat → Nat → Nat → Int32} {rc : Nat → Bool} {p : Nat} : ∀ n, cSt sg rc p n ≤ n
  | 0 => Nat.le_refl 0
  | n + 1 => by show cSt sg rc p n + _ ≤ n + 1; have := cSt_le (sg := sg) (rc := rc) (p := p) n; split <;> omega
/-- the bits of which P is so, as a set -/
def fBs (P : Nat → Bool) : Nat → Int32
  | 0 => nI 0
  | b + 1 => if P b then fBs P b ||| (nI 1 <<< (nI b &&& 31)) else fBs P b
theorem fBs_n {P : Nat → Bool} {b : Nat} (h : P b = false) : fBs P b = fBs P (b + 1) := by
  show _ = (if P b then _ else _); rw [h]; rfl
theorem fBs_p {P : Nat → Bool} {b : Nat} (h : P b = true) : (fBs P b ||| (nI 1 <<< (nI b &&& 31))) = fBs P (b + 1) := by
  show _ = (if P b then _ else _); rw [h]; rfl
theorem fBs_cong {P R : Nat → Bool} : ∀ {n : Nat}, (∀ b, b < n → P b = R b) → fBs P n = fBs R n
  | 0, _ => rfl
  | n + 1, h => by show (if P n then _ else _) = (if R n then _ else _); rw [fBs_cong (fun b hb => h b (by omega)), h n (Nat.lt_succ_self n)]
set_option maxHeartbeats 4000000 in
set_option maxRecDepth 100000 in
theorem c_rFile (l : Launch) (hfl : l.stackTraces = false) {E : xE} {base : Nat} {al : Tg → Nat} {w : Tg → Option va_E} {nf np na nw : Nat} {sg : Nat → Nat → Nat → Int32} {rc : Nat → Bool} (hR : RM E al w nf np na nw sg rc) (hI : INV nf np na nw sg rc) {x : Int32} : xMetX l yX6_requireFile cX6_requireFile 2 none ({ frames := 6, cells := 1, slots := 6, locals := 82 } : Room) E base [.ref (al (0, 0, 0)), .int x] (fun H => xH E base al w H) (fun r H => r = none ∧ inR x nf ∧ xH E base al w H) (fun X H => X = "java/lang/IndexOutOfBoundsException" ∧ ¬ inR x nf ∧ xH E base al w H) := by
  refine xMetX.of (by decide +kernel) "Dataroom" rfl (Nat.le_of_ble_eq_true rfl) ?_
  intro p9 e9 s m9 below meth c9 ls C het hP hS hl
  have hx := C.hx
  have hb := C.hb
  have hH := hP
  have hl : lv_has ls 2 [(0, .ref (al (0, 0, 0))), (1, .int x)] := hl
  obtain ⟨post, hpost⟩ : ∃ zz9 : Option Value → Heap → Prop, zz9 = (fun r H => r = none ∧ inR x nf ∧ xH E base al w H) := ⟨_, rfl⟩
  obtain ⟨px, hpx⟩ : ∃ zz9 : String → Heap → Prop, zz9 = (fun X H => X = "java/lang/IndexOutOfBoundsException" ∧ ¬ inR x nf ∧ xH E base al w H) := ⟨_, rfl⟩
  rw [← hpost, ← hpx]
  generalize hQ : (vx_MQ below (xQ base post) (xX base px) ([.ref (al (0, 0, 0)), .int x] : List Value).toArray s 1 6 (xA base)) = Q
  have hR0 := hR
  have hI0 := hI
  obtain ⟨hX, hF, hPl, hAl, hSh, hMk, hC, hPT, hAn⟩ := hR
  obtain ⟨mcF, aF, hLF⟩ := hF.sz
  obtain ⟨mcP, aP, hLP⟩ := hPl.sz
  obtain ⟨mcA, aA, hLA⟩ := hAl.sz
  obtain ⟨v16, v6, v150, vnow, vA, vS, vP, vK, vR⟩ := hI
  refine lv_iload_n hx hb dX6_requireFile_0 rfl (lv_at hl 1 rfl) ?_
  refine lv_if_lt (tgt := 15) hx hb dX6_requireFile_1 (by decide) (fun c_1 => ?_) (fun c_1 => ?_)
  · skip
    rw [← hQ]
    refine x_throw C het hfl at_IOB qw_306 qw_17 (List.mem_of_getElem? (i := 2) rfl) (by decide +kernel) hS hl.1 dX6_requireFile_15 dX6_requireFile_18 dX6_requireFile_19 dX6_requireFile_21 dX6_requireFile_24 (Nat.le_of_ble_eq_true rfl) (Nat.le_of_ble_eq_true rfl) (Nat.le_of_ble_eq_true rfl) (Nat.le_of_ble_eq_true rfl) (Nat.le_of_ble_eq_true rfl) (Nat.le_of_ble_eq_true rfl) (fun H1 ho => ?_)
    rw [hpx]
    exact ⟨rfl, inR_no (by omega) (Or.inl c_1), hH.kept ho⟩
  · skip
    refine lv_iload_n hx hb dX6_requireFile_4 rfl (lv_at hl 1 rfl) ?_
    refine lv_aload_n hx hb dX6_requireFile_5 rfl (lv_at hl 0 rfl) ?_
    refine x_get C hH (ci := 7) (T := TX6) (N := 6) hX rfl iWX6 0 (by decide) qw_87 rfl rfl dX6_requireFile_6 ?_
    refine x_callV C hH hS (ci := 0) (t := (0, 1, 0)) hLF rfl rfl (c_size l (E := E) (base := base) (al := al) hLF) hH kJx4a65c_size_8abf5 qw_197 qw_198 qw_196  rfl [.int x] rfl hl.1 (Nat.le_of_ble_eq_true rfl) ⟨Nat.le_of_ble_eq_true rfl, Nat.le_of_ble_eq_true rfl⟩ dX6_requireFile_9 ⟨Nat.le_of_ble_eq_true rfl, Nat.le_of_ble_eq_true rfl⟩ (fun r_3 H locs hp_2 hS => ?_)
    obtain ⟨rfl, hH⟩ := hp_2
    refine lv_icmp_lt (tgt := 25) hx hb dX6_requireFile_12 (by decide) (fun c_4 => ?_) (fun c_4 => ?_)
    · skip
      rw [← hQ]
      refine vx_ret (x_retv C hS (Nat.le_of_ble_eq_true rfl) (Nat.le_of_ble_eq_true rfl) dX6_requireFile_25 ?_)
      rw [hpost]
      exact ⟨rfl, inR_of (by omega) c_1 c_4, hH⟩
    · skip
      rw [← hQ]
      refine x_throw C het hfl at_IOB qw_306 qw_17 (List.mem_of_getElem? (i := 2) rfl) (by decide +kernel) hS hl.1 dX6_requireFile_15 dX6_requireFile_18 dX6_requireFile_19 dX6_requireFile_21 dX6_requireFile_24 (Nat.le_of_ble_eq_true rfl) (Nat.le_of_ble_eq_true rfl) (Nat.le_of_ble_eq_true rfl) (Nat.le_of_ble_eq_true rfl) (Nat.le_of_ble_eq_true rfl) (Nat.le_of_ble_eq_true rfl) (fun H1 ho => ?_)
      rw [hpx]
      exact ⟨rfl, inR_no (by omega) (Or.inr c_4), hH.kept ho⟩

set_option maxHeartbeats 4000000 in
set_option maxRecDepth 100000 in
theorem c_pAt (l : Launch) (hfl : l.stackTraces = false) {E : xE} {base : Nat} {al : Tg → Nat} {w : Tg → Option va_E} {nf np na nw : Nat} {sg : Nat → Nat → Nat → Int32} {rc : Nat → Bool} (hR : RM E al w nf np na nw sg rc) (hI : INV nf np na nw sg rc) {x : Int32} : xMetX l yX6_partyAt cX6_partyAt 2 (some ((.object "Dataroom$Party"))) ({ frames := 6, cells := 1, slots := 6, locals := 82 } : Room) E base [.ref (al (0, 0, 0)), .int x] (fun H => xH E base al w H) (fun r H => ∃ j, j < np ∧ x = nI j ∧ r = some (.ref (al (2, j, 0))) ∧ xH E base al w H) (fun X H => X = "java/lang/IndexOutOfBoundsException" ∧ ¬ inR x np ∧ xH E base al w H) := by
  refine xMetX.of (by decide +kernel) "Dataroom" rfl (Nat.le_of_ble_eq_true rfl) ?_
  intro p9 e9 s m9 below meth c9 ls C het hP hS hl
  have hx := C.hx
  have hb := C.hb
  have hH := hP
  have hl : lv_has ls 2 [(0, .ref (al (0, 0, 0))), (1, .int x)] := hl
  obtain ⟨post, hpost⟩ : ∃ zz9 : Option Value → Heap → Prop, zz9 = (fun r H => ∃ j, j < np ∧ x = nI j ∧ r = some (.ref (al (2, j, 0))) ∧ xH E base al w H) := ⟨_, rfl⟩
  obtain ⟨px, hpx⟩ : ∃ zz9 : String → Heap → Prop, zz9 = (fun X H => X = "java/lang/IndexOutOfBoundsException" ∧ ¬ inR x np ∧ xH E base al w H) := ⟨_, rfl⟩
  rw [← hpost, ← hpx]
  generalize hQ : (vx_MQ below (xQ base post) (xX base px) ([.ref (al (0, 0, 0)), .int x] : List Value).toArray s 1 6 (xA base)) = Q
  have hR0 := hR
  have hI0 := hI
  obtain ⟨hX, hF, hPl, hAl, hSh, hMk, hC, hPT, hAn⟩ := hR
  obtain ⟨mcF, aF, hLF⟩ := hF.sz
  obtain ⟨mcP, aP, hLP⟩ := hPl.sz
  obtain ⟨mcA, aA, hLA⟩ := hAl.sz
  obtain ⟨v16, v6, v150, vnow, vA, vS, vP, vK, vR⟩ := hI
  refine lv_iload_n hx hb dX6_partyAt_0 rfl (lv_at hl 1 rfl) ?_
  refine lv_if_lt (tgt := 15) hx hb dX6_partyAt_1 (by decide) (fun c_1 => ?_) (fun c_1 => ?_)
  · skip
    rw [← hQ]
    refine x_throw C het hfl at_IOB qw_306 qw_17 (List.mem_of_getElem? (i := 4) rfl) (by decide +kernel) hS hl.1 dX6_partyAt_15 dX6_partyAt_18 dX6_partyAt_19 dX6_partyAt_21 dX6_partyAt_24 (Nat.le_of_ble_eq_true rfl) (Nat.le_of_ble_eq_true rfl) (Nat.le_of_ble_eq_true rfl) (Nat.le_of_ble_eq_true rfl) (Nat.le_of_ble_eq_true rfl) (Nat.le_of_ble_eq_true rfl) (fun H1 ho => ?_)
    rw [hpx]
    exact ⟨rfl, inR_no (by omega) (Or.inl c_1), hH.kept ho⟩
  · skip
    refine lv_iload_n hx hb dX6_partyAt_4 rfl (lv_at hl 1 rfl) ?_
    refine lv_aload_n hx hb dX6_partyAt_5 rfl (lv_at hl 0 rfl) ?_
    refine x_get C hH (ci := 7) (T := TX6) (N := 6) hX rfl iWX6 1 (by decide) qw_88 rfl rfl dX6_partyAt_6 ?_
    refine x_callV C hH hS (ci := 0) (t := (0, 2, 0)) hLP rfl rfl (c_size l (E := E) (base := base) (al := al) hLP) hH kJx4a65c_size_8abf5 qw_197 qw_198 qw_196  rfl [.int x] rfl hl.1 (Nat.le_of_ble_eq_true rfl) ⟨Nat.le_of_ble_eq_true rfl, Nat.le_of_ble_eq_true rfl⟩ dX6_partyAt_9 ⟨Nat.le_of_ble_eq_true rfl, Nat.le_of_ble_eq_true rfl⟩ (fun r_3 H locs hp_2 hS => ?_)
    obtain ⟨rfl, hH⟩ := hp_2
    refine lv_icmp_lt (tgt := 25) hx hb dX6_partyAt_12 (by decide) (fun c_4 => ?_) (fun c_4 => ?_)
    · skip
      obtain ⟨j, hj, rfl⟩ := inR_of (n := np) (by omega) c_1 c_4
      refine lv_aload_n hx hb dX6_partyAt_25 rfl (lv_at hl 0 rfl) ?_
      refine x_get C hH (ci := 7) (T := TX6) (N := 6) hX rfl iWX6 1 (by decide) qw_88 rfl rfl dX6_partyAt_26 ?_
      refine lv_iload_n hx hb dX6_partyAt_29 rfl (lv_at hl 1 rfl) ?_
      obtain ⟨mcz_5, capz_5, gz_5, a1z_5, a2z_5, a3z_5, a4z_5, a5z_5⟩ := hPl.at (i := j) (by omega)
      refine x_callV C hH hS (ci := 0) (t := (0, 2, 0)) a1z_5 rfl rfl (c_get l (E := E) (base := base) a1z_5 a2z_5 (i := j) (by omega) a3z_5 a4z_5 a5z_5) hH kJx4a65c_get_915e3 qw_323 qw_324 qw_322  rfl [] rfl hl.1 (Nat.le_of_ble_eq_true rfl) ⟨Nat.le_of_ble_eq_true rfl, Nat.le_of_ble_eq_true rfl⟩ dX6_partyAt_30 ⟨Nat.le_of_ble_eq_true rfl, Nat.le_of_ble_eq_true rfl⟩ (fun r_7 H locs hp_6 hS => ?_)
      obtain ⟨rfl, hH⟩ := hp_6
      refine x_cast C hH (ci := 5) (hPT j (by omega)).1 rfl qw_336 dX6_partyAt_33 ?_
      rw [← hQ]
      refine vx_ret (x_reta C (Or.inl ⟨_, rfl⟩) (Or.inr ⟨_, rfl⟩) hS (Nat.le_of_ble_eq_true rfl) (Nat.le_of_ble_eq_true rfl) dX6_partyAt_36 ?_)
      rw [hpost]
      exact ⟨j, hj, rfl, rfl, hH⟩
    · skip
      rw [← hQ]
      refine x_throw C het hfl at_IOB qw_306 qw_17 (List.mem_of_getElem? (i := 4) rfl) (by decide +kernel) hS hl.1 dX6_partyAt_15 dX6_partyAt_18 dX6_partyAt_19 dX6_partyAt_21 dX6_partyAt_24 (Nat.le_of_ble_eq_true rfl) (Nat.le_of_ble_eq_true rfl) (Nat.le_of_ble_eq_true rfl) (Nat.le_of_ble_eq_true rfl) (Nat.le_of_ble_eq_true rfl) (Nat.le_of_ble_eq_true rfl) (fun H1 ho => ?_)
      rw [hpx]
      exact ⟨rfl, inR_no (by omega) (Or.inr c_4), hH.kept ho⟩

set_option maxHeartbeats 4000000 in
set_option maxRecDepth 100000 in
theorem c_fAt (l : Launch) (hfl : l.stackTraces = false) {E : xE} {base : Nat} {al : Tg → Nat} {w : Tg → Option va_E} {nf np na nw : Nat} {sg : Nat → Nat → Nat → Int32} {rc : Nat → Bool} (hR : RM E al w nf np na nw sg rc) (hI : INV nf np na nw sg rc) {x : Int32} : xMetX l yX6_fileAt cX6_fileAt 2 (some ((.object "Dataroom$Card"))) ({ frames := 7, cells := 1, slots := 6, locals := 103 } : Room) E base [.ref (al (0, 0, 0)), .int x] (fun H => xH E base al w H) (fun r H => ∃ j, j < nf ∧ x = nI j ∧ r = some (.ref (al (1, j, 0))) ∧ xH E base al w H) (fun X H => X = "java/lang/IndexOutOfBoundsException" ∧ ¬ inR x nf ∧ xH E base al w H) := by
  refine xMetX.of (by decide +kernel) "Dataroom" rfl (Nat.le_of_ble_eq_true rfl) ?_
  intro p9 e9 s m9 below meth c9 ls C het hP hS hl
  have hx := C.hx
  have hb := C.hb
  have hH := hP
  have hl : lv_has ls 2 [(0, .ref (al (0, 0, 0))), (1, .int x)] := hl
  obtain ⟨post, hpost⟩ : ∃ zz9 : Option Value → Heap → Prop, zz9 = (fun r H => ∃ j, j < nf ∧ x = nI j ∧ r = some (.ref (al (1, j, 0))) ∧ xH E base al w H) := ⟨_, rfl⟩
  obtain ⟨px, hpx⟩ : ∃ zz9 : String → Heap → Prop, zz9 = (fun X H => X = "java/lang/IndexOutOfBoundsException" ∧ ¬ inR x nf ∧ xH E base al w H) := ⟨_, rfl⟩
  rw [← hpost, ← hpx]
  generalize hQ : (vx_MQ below (xQ base post) (xX base px) ([.ref (al (0, 0, 0)), .int x] : List Value).toArray s 1 6 (xA base)) = Q
  have hR0 := hR
  have hI0 := hI
  obtain ⟨hX, hF, hPl, hAl, hSh, hMk, hC, hPT, hAn⟩ := hR
  obtain ⟨mcF, aF, hLF⟩ := hF.sz
  obtain ⟨mcP, aP, hLP⟩ := hPl.sz
  obtain ⟨mcA, aA, hLA⟩ := hAl.sz
  obtain ⟨v16, v6, v150, vnow, vA, vS, vP, vK, vR⟩ := hI
  refine lv_aload_n hx hb dX6_fileAt_0 rfl (lv_at hl 0 rfl) ?_
  refine lv_iload_n hx hb dX6_fileAt_1 rfl (lv_at hl 1 rfl) ?_
  refine x_thrV C hH hS (ci := 7) (t := (0, 0, 0)) hX rfl rfl (c_rFile l hfl (E := E) (base := base) hR0 hI0 (x := x)) hH kX6_requireFile qw_304 (ws_p (List.mem_of_getElem? (i := 5) rfl) rfl) qw_302  rfl [] rfl hl.1 (Nat.le_of_ble_eq_true rfl) ⟨Nat.le_of_ble_eq_true rfl, Nat.le_of_ble_eq_true rfl⟩ dX6_fileAt_2 ⟨Nat.le_of_ble_eq_true rfl, Nat.le_of_ble_eq_true rfl⟩ (fun X ce q9 H locs hp_1 hS hce hcv hcl => ?_) (fun r_2 H locs hp_1 hS => ?_)
  · skip
    obtain ⟨rfl, hno, hH⟩ := hp_1
    rw [← hQ]
    refine x_outX C het hS hce hcv hcl (Nat.le_of_ble_eq_true rfl) (Nat.le_of_ble_eq_true rfl) ?_
    rw [hpx]
    exact ⟨rfl, hno, hH⟩
  · skip
    obtain ⟨rfl, ⟨f_3, hf_3, rfl⟩, hH⟩ := hp_1
    refine lv_aload_n hx hb dX6_fileAt_5 rfl (lv_at hl 0 rfl) ?_
    refine x_get C hH (ci := 7) (T := TX6) (N := 6) hX rfl iWX6 0 (by decide) qw_87 rfl rfl dX6_fileAt_6 ?_
    refine lv_iload_n hx hb dX6_fileAt_9 rfl (lv_at hl 1 rfl) ?_
    obtain ⟨mcz_4, capz_4, gz_4, a1z_4, a2z_4, a3z_4, a4z_4, a5z_4⟩ := hF.at (i := f_3) (by omega)
    refine x_callV C hH hS (ci := 0) (t := (0, 1, 0)) a1z_4 rfl rfl (c_get l (E := E) (base := base) a1z_4 a2z_4 (i := f_3) (by omega) a3z_4 a4z_4 a5z_4) hH kJx4a65c_get_915e3 qw_323 qw_324 qw_322  rfl [] rfl hl.1 (Nat.le_of_ble_eq_true rfl) ⟨Nat.le_of_ble_eq_true rfl, Nat.le_of_ble_eq_true rfl⟩ dX6_fileAt_10 ⟨Nat.le_of_ble_eq_true rfl, Nat.le_of_ble_eq_true rfl⟩ (fun r_6 H locs hp_5 hS => ?_)
    obtain ⟨rfl, hH⟩ := hp_5
    refine x_cast C hH (ci := 2) (hC f_3 (by omega)) rfl qw_216 dX6_fileAt_13 ?_
    rw [← hQ]
    refine vx_ret (x_reta C (Or.inl ⟨_, rfl⟩) (Or.inr ⟨_, rfl⟩) hS (Nat.le_of_ble_eq_true rfl) (Nat.le_of_ble_eq_true rfl) dX6_fileAt_16 ?_)
    rw [hpost]
    exact ⟨f_3, hf_3, rfl, rfl, hH⟩

set_option maxHeartbeats 4000000 in
set_option maxRecDepth 100000 in
theorem c_rQ (l : Launch) (hfl : l.stackTraces = false) {E : xE} {base : Nat} {al : Tg → Nat} {w : Tg → Option va_E} {nf np na nw : Nat} {sg : Nat → Nat → Nat → Int32} {rc : Nat → Bool} (hR : RM E al w nf np na nw sg rc) (hI : INV nf np na nw sg rc) {x bit : Int32} : xMetX l yX6_requireQuestion cX6_requireQuestion 3 none ({ frames := 7, cells := 2, slots := 12, locals := 104 } : Room) E base [.ref (al (0, 0, 0)), .int x, .int bit] (fun H => xH E base al w H) (fun r H => r = none ∧ Qok nf x bit ∧ xH E base al w H) (fun X H => X = "java/lang/IllegalArgumentException" ∧ ¬ Qok nf x bit ∧ xH E base al w H) := by
  refine xMetX.of (by decide +kernel) "Dataroom" rfl (Nat.le_of_ble_eq_true rfl) ?_
  intro p9 e9 s m9 below meth c9 ls C het hP hS hl
  have hx := C.hx
  have hb := C.hb
  have hH := hP
  have hl : lv_has ls 3 [(0, .ref (al (0, 0, 0))), (1, .int x), (2, .int bit)] := hl
  obtain ⟨post, hpost⟩ : ∃ zz9 : Option Value → Heap → Prop, zz9 = (fun r H => r = none ∧ Qok nf x bit ∧ xH E base al w H) := ⟨_, rfl⟩
  obtain ⟨px, hpx⟩ : ∃ zz9 : String → Heap → Prop, zz9 = (fun X H => X = "java/lang/IllegalArgumentException" ∧ ¬ Qok nf x bit ∧ xH E base al w H) := ⟨_, rfl⟩
  rw [← hpost, ← hpx]
  generalize hQ : (vx_MQ below (xQ base post) (xX base px) ([.ref (al (0, 0, 0)), .int x, .int bit] : List Value).toArray s 2 12 (xA base)) = Q
  have hR0 := hR
  have hI0 := hI
  obtain ⟨hX, hF, hPl, hAl, hSh, hMk, hC, hPT, hAn⟩ := hR
  obtain ⟨mcF, aF, hLF⟩ := hF.sz
  obtain ⟨mcP, aP, hLP⟩ := hPl.sz
  obtain ⟨mcA, aA, hLA⟩ := hAl.sz
  obtain ⟨v16, v6, v150, vnow, vA, vS, vP, vK, vR⟩ := hI
  refine lv_iload_n hx hb dX6_requireQuestion_0 rfl (lv_at hl 1 rfl) ?_
  refine lv_iconst (v := nI 1) hx hb dX6_requireQuestion_1 (by decide +kernel) ?_
  refine lv_iconst (v := nI 1) hx hb dX6_requireQuestion_2 (by decide +kernel) ?_
  refine lv_aload_n hx hb dX6_requireQuestion_3 rfl (lv_at hl 0 rfl) ?_
  refine x_get C hH (ci := 7) (T := TX6) (N := 6) hX rfl iWX6 0 (by decide) qw_87 rfl rfl dX6_requireQuestion_4 ?_
  refine x_callV C hH hS (ci := 0) (t := (0, 1, 0)) hLF rfl rfl (c_size l (E := E) (base := base) (al := al) hLF) hH kJx4a65c_size_8abf5 qw_197 qw_198 qw_196  rfl [.int (nI 1), .int (nI 1), .int x] rfl hl.1 (Nat.le_of_ble_eq_true rfl) ⟨Nat.le_of_ble_eq_true rfl, Nat.le_of_ble_eq_true rfl⟩ dX6_requireQuestion_7 ⟨Nat.le_of_ble_eq_true rfl, Nat.le_of_ble_eq_true rfl⟩ (fun r_2 H locs hp_1 hS => ?_)
  obtain ⟨rfl, hH⟩ := hp_1
  refine lv_ishl hx hb dX6_requireQuestion_10 ?_
  refine lv_iconst (v := nI 1) hx hb dX6_requireQuestion_11 (by decide +kernel) ?_
  refine lv_isub hx hb dX6_requireQuestion_12 ?_
  refine x_thrS C hS (c_rRange l hfl (E := E) (base := base) (al := al) (w := w) (v := x) (lo := nI 1) (hi := ((nI 1 <<< (nI nf &&& 31)) - nI 1))) hH kX6_requireRange qw_126 qw_125  rfl [] rfl hl.1 (Nat.le_of_ble_eq_true rfl) ⟨Nat.le_of_ble_eq_true rfl, Nat.le_of_ble_eq_true rfl⟩ dX6_requireQuestion_13 ⟨Nat.le_of_ble_eq_true rfl, Nat.le_of_ble_eq_true rfl⟩ (fun X ce q9 H locs hp_3 hS hce hcv hcl => ?_) (fun r_4 H locs hp_3 hS => ?_)
  · skip
    obtain ⟨rfl, hno, hH⟩ := hp_3
    rw [← hQ]
    refine x_outX C het hS hce hcv hcl (Nat.le_of_ble_eq_true rfl) (Nat.le_of_ble_eq_true rfl) ?_
    rw [hpx]
    exact ⟨rfl, fun q => hno q.1, hH⟩
  · skip
    obtain ⟨rfl, rg_5, hH⟩ := hp_3
    refine lv_iload_n hx hb dX6_requireQuestion_16 rfl (lv_at hl 2 rfl) ?_
    refine lv_iconst (v := (-1)) hx hb dX6_requireQuestion_17 (by decide +kernel) ?_
    refine lv_bipush (v := nI 7) hx hb dX6_requireQuestion_18 (by decide +kernel) ?_
    refine x_thrS C hS (c_rRange l hfl (E := E) (base := base) (al := al) (w := w) (v := bit) (lo := (-1)) (hi := nI 7)) hH kX6_requireRange qw_126 qw_125  rfl [] rfl hl.1 (Nat.le_of_ble_eq_true rfl) ⟨Nat.le_of_ble_eq_true rfl, Nat.le_of_ble_eq_true rfl⟩ dX6_requireQuestion_20 ⟨Nat.le_of_ble_eq_true rfl, Nat.le_of_ble_eq_true rfl⟩ (fun X ce q9 H locs hp_6 hS hce hcv hcl => ?_) (fun r_7 H locs hp_6 hS => ?_)
    · skip
      obtain ⟨rfl, hno, hH⟩ := hp_6
      rw [← hQ]
      refine x_outX C het hS hce hcv hcl (Nat.le_of_ble_eq_true rfl) (Nat.le_of_ble_eq_true rfl) ?_
      rw [hpx]
      exact ⟨rfl, fun q => hno q.2, hH⟩
    · skip
      obtain ⟨rfl, rg_8, hH⟩ := hp_6
      rw [← hQ]
      refine vx_ret (x_retv C hS (Nat.le_of_ble_eq_true rfl) (Nat.le_of_ble_eq_true rfl) dX6_requireQuestion_23 ?_)
      rw [hpost]
      exact ⟨rfl, ⟨rg_5, rg_8⟩, hH⟩

set_option maxHeartbeats 4000000 in
set_option maxRecDepth 100000 in
theorem c_lacks (l : Launch) {E : xE} {base : Nat} {al : Tg → Nat} {w : Tg → Option va_E} {nf np na nw : Nat} {sg : Nat → Nat → Nat → Int32} {rc : Nat → Bool} (hR : RM E al w nf np na nw sg rc) (hI : INV nf np na nw sg rc) {p : Nat} (hp : p < np) {x : Int32} : xMet l yX6_lacksRight cX6_lacksRight 4 (some (.boolean)) ({ frames := 3, cells := 0, slots := 0, locals := 83 } : Room) E base [.ref (al (0, 0, 0)), .ref (al (2, p, 0)), .int x] (fun H => xH E base al w H) (fun r H => r = some (.int (ob (lack nf nw sg p x))) ∧ xH E base al w H) := by
  refine xMet.of (by decide +kernel) "Dataroom" rfl (Nat.le_of_ble_eq_true rfl) ?_
  intro p9 e9 s m9 below meth c9 ls C hin hP hS hl
  have hx := C.hx
  have hb := C.hb
  have hH := hP
  have hl : lv_has ls 4 [(0, .ref (al (0, 0, 0))), (1, .ref (al (2, p, 0))), (2, .int x)] := hl
  obtain ⟨post, hpost⟩ : ∃ zz9 : Option Value → Heap → Prop, zz9 = (fun r H => r = some (.int (ob (lack nf nw sg p x))) ∧ xH E base al w H) := ⟨_, rfl⟩
  rw [← hpost]
  generalize hQ : (MQ below (xQ base post) ([.ref (al (0, 0, 0)), .ref (al (2, p, 0)), .int x] : List Value).toArray s 0 0 (xA base)) = Q
  have hR0 := hR
  have hI0 := hI
  obtain ⟨hX, hF, hPl, hAl, hSh, hMk, hC, hPT, hAn⟩ := hR
  obtain ⟨mcF, aF, hLF⟩ := hF.sz
  obtain ⟨mcP, aP, hLP⟩ := hPl.sz
  obtain ⟨mcA, aA, hLA⟩ := hAl.sz
  obtain ⟨v16, v6, v150, vnow, vA, vS, vP, vK, vR⟩ := hI
  refine lv_iconst (v := nI 0) hx hb dX6_lacksRight_0 (by decide +kernel) ?_
  refine lv_istore_n (lv' := [(3, .int (nI 0)), (0, .ref (al (0, 0, 0))), (1, .ref (al (2, p, 0))), (2, .int x)]) hx hb dX6_lacksRight_1 rfl hl (by decide) rfl (fun ls hl => ?_)
  have lp2 : ∀ (i : Nat), i ≤ nf → ∀  (H : Heap) (locs : List Loc) (ls : Array Slot), anyB (fun f => bt x f && decide (rIn (sg 4 p f) (sg 5 p f) (sg 6 p f) (nI nw) = 0)) i = false → xH E base al w H → va_S (xA base) s.heap H locs → lv_has ls 4 [(3, .int (nI i)), (2, .int x), (1, .ref (al (2, p, 0))), (0, .ref (al (0, 0, 0)))] → W p9 l e9 ({ frames := 3, cells := 0, slots := 0, locals := 83 } : Room) s m9 ([.ref (al (0, 0, 0)), .ref (al (2, p, 0)), .int x] : List Value).toArray below meth c9 H locs 0 0 Q (F0 m9 2 ls []) := by
    refine lp_up ?_
    intro i hii ih2  H locs ls hy hH hS hl
    refine lv_iload_n hx hb dX6_lacksRight_2 rfl (lv_at hl 0 rfl) ?_
    refine lv_aload_n hx hb dX6_lacksRight_3 rfl (lv_at hl 3 rfl) ?_
    refine x_get C hH (ci := 7) (T := TX6) (N := 6) hX rfl iWX6 0 (by decide) qw_87 rfl rfl dX6_lacksRight_4 ?_
    refine x_callV C hH hS (ci := 0) (t := (0, 1, 0)) hLF rfl rfl (c_size l (E := E) (base := base) (al := al) hLF) hH kJx4a65c_size_8abf5 qw_197 qw_198 qw_196  rfl [.int (nI i)] rfl hl.1 (Nat.le_of_ble_eq_true rfl) ⟨Nat.le_of_ble_eq_true rfl, Nat.le_of_ble_eq_true rfl⟩ dX6_lacksRight_7 ⟨Nat.le_of_ble_eq_true rfl, Nat.le_of_ble_eq_true rfl⟩ (fun r_2 H locs hp_1 hS => ?_)
    obtain ⟨rfl, hH⟩ := hp_1
    refine lv_icmp_ge (tgt := 41) hx hb dX6_lacksRight_10 (by decide) (fun c_3 => ?_) (fun c_3 => ?_)
    · skip
      replace c_3 := (nI_leI (by omega) (by omega)).mp c_3
      refine lv_iconst (v := nI 0) hx hb dX6_lacksRight_41 (by decide +kernel) ?_
      rw [← hQ]
      refine x_reti C rfl hS (Nat.le_of_ble_eq_true rfl) (Nat.le_of_ble_eq_true rfl) dX6_lacksRight_42 ?_
      rw [hpost]
      have e8 : i = nf := by omega
      rw [e8] at hy
      exact ⟨by rw [show lack nf nw sg p x = false from hy]; rfl, hH⟩
    · skip
      replace c_3 := mt (nI_leI (by omega) (by omega)).mpr c_3
      refine lv_iload_n hx hb dX6_lacksRight_13 rfl (lv_at hl 1 rfl) ?_
      refine lv_iload_n hx hb dX6_lacksRight_14 rfl (lv_at hl 0 rfl) ?_
      refine x_callS C hS (c_holds l (E := E) (base := base) (al := al) (w := w) (x := x) (k := i) (by omega)) hH kX6_holds qw_347 qw_346  rfl [] rfl hl.1 (Nat.le_of_ble_eq_true rfl) ⟨Nat.le_of_ble_eq_true rfl, Nat.le_of_ble_eq_true rfl⟩ dX6_lacksRight_15 ⟨Nat.le_of_ble_eq_true rfl, Nat.le_of_ble_eq_true rfl⟩ (fun r_5 H locs hp_4 hS => ?_)
      obtain ⟨rfl, hH⟩ := hp_4
      refine lv_if_eq (tgt := 35) hx hb dX6_lacksRight_18 (by decide) (fun c_6 => ?_) (fun c_6 => ?_)
      · skip
        replace c_6 := ob_0.mp c_6
        refine lv_iinc (v := nI (i + 1)) (lv' := [(3, .int (nI (i + 1))), (2, .int x), (1, .ref (al (2, p, 0))), (0, .ref (al (0, 0, 0)))]) hx hb dX6_lacksRight_35 hl (k := 0) rfl (nI_1 _) (by decide) rfl (fun ls hl => ?_)
        refine lv_goto (tgt := 2) hx hb dX6_lacksRight_38 (by decide) ?_
        exact ih2 (by omega)  _ _ _ (by show (_ || _) = false; rw [hy]; simp [c_6]) hH hS (lv_sub hl [0, 1, 2, 3] rfl)
      · skip
        replace c_6 := ob_n.mp c_6
        refine lv_aload_n hx hb dX6_lacksRight_21 rfl (lv_at hl 2 rfl) ?_
        refine lv_aload_n hx hb dX6_lacksRight_22 rfl (lv_at hl 3 rfl) ?_
        refine x_get C hH (ci := 7) (T := TX6) (N := 6) hX rfl iWX6 3 (by decide) qw_90 rfl rfl dX6_lacksRight_23 ?_
        refine lv_iload_n hx hb dX6_lacksRight_26 rfl (lv_at hl 0 rfl) ?_
        refine x_callV C hH hS (ci := 5) (t := (2, p, 0)) (hPT p (by omega)).1 rfl rfl (c_rightIn l (E := E) (base := base) (hPT p (by omega)) (f := i) (hh := nI nw) (by omega)) hH kX4_rightIn qw_497 qw_498 qw_496  rfl [] rfl hl.1 (Nat.le_of_ble_eq_true rfl) ⟨Nat.le_of_ble_eq_true rfl, Nat.le_of_ble_eq_true rfl⟩ dX6_lacksRight_27 ⟨Nat.le_of_ble_eq_true rfl, Nat.le_of_ble_eq_true rfl⟩ (fun r_8 H locs hp_7 hS => ?_)
        obtain ⟨rfl, hH⟩ := hp_7
        refine lv_if_ne (tgt := 35) hx hb dX6_lacksRight_30 (by decide) (fun c_9 => ?_) (fun c_9 => ?_)
        · skip
          refine lv_iinc (v := nI (i + 1)) (lv' := [(3, .int (nI (i + 1))), (2, .int x), (1, .ref (al (2, p, 0))), (0, .ref (al (0, 0, 0)))]) hx hb dX6_lacksRight_35 hl (k := 0) rfl (nI_1 _) (by decide) rfl (fun ls hl => ?_)
          refine lv_goto (tgt := 2) hx hb dX6_lacksRight_38 (by decide) ?_
          exact ih2 (by omega)  _ _ _ (by show (_ || _) = false; rw [hy]; simp [c_6, c_9]) hH hS (lv_sub hl [0, 1, 2, 3] rfl)
        · skip
          refine lv_iconst (v := nI 1) hx hb dX6_lacksRight_33 (by decide +kernel) ?_
          rw [← hQ]
          refine x_reti C rfl hS (Nat.le_of_ble_eq_true rfl) (Nat.le_of_ble_eq_true rfl) dX6_lacksRight_34 ?_
          rw [hpost]
          exact ⟨by rw [show lack nf nw sg p x = true from anyB_t (P := (fun f => bt x f && decide (rIn (sg 4 p f) (sg 5 p f) (sg 6 p f) (nI nw) = 0))) (i := i) (by simp [c_6, c_9]) _ (by omega)]; rfl, hH⟩
  exact lp2 0 (by omega)  _ _ _ rfl hH hS (lv_sub hl [0, 3, 2, 1] rfl)

set_option maxHeartbeats 4000000 in
set_option maxRecDepth 100000 in
theorem c_sealed (l : Launch) {E : xE} {base : Nat} {al : Tg → Nat} {w : Tg → Option va_E} {nf np na nw : Nat} {sg : Nat → Nat → Nat → Int32} {rc : Nat → Bool} (hR : RM E al w nf np na nw sg rc) (hI : INV nf np na nw sg rc) {x : Int32} : xMet l yX6_hasSealed cX6_hasSealed 3 (some (.boolean)) ({ frames := 3, cells := 0, slots := 0, locals := 64 } : Room) E base [.ref (al (0, 0, 0)), .int x] (fun H => xH E base al w H) (fun r H => r = some (.int (ob (seld nf nw sg x))) ∧ xH E base al w H) := by
  refine xMet.of (by decide +kernel) "Dataroom" rfl (Nat.le_of_ble_eq_true rfl) ?_
  intro p9 e9 s m9 below meth c9 ls C hin hP hS hl
  have hx := C.hx
  have hb := C.hb
  have hH := hP
  have hl : lv_has ls 3 [(0, .ref (al (0, 0, 0))), (1, .int x)] := hl
  obtain ⟨post, hpost⟩ : ∃ zz9 : Option Value → Heap → Prop, zz9 = (fun r H => r = some (.int (ob (seld nf nw sg x))) ∧ xH E base al w H) := ⟨_, rfl⟩
  rw [← hpost]
  generalize hQ : (MQ below (xQ base post) ([.ref (al (0, 0, 0)), .int x] : List Value).toArray s 0 0 (xA base)) = Q
  have hR0 := hR
  have hI0 := hI
  obtain ⟨hX, hF, hPl, hAl, hSh, hMk, hC, hPT, hAn⟩ := hR
  obtain ⟨mcF, aF, hLF⟩ := hF.sz
  obtain ⟨mcP, aP, hLP⟩ := hPl.sz
  obtain ⟨mcA, aA, hLA⟩ := hAl.sz
  obtain ⟨v16, v6, v150, vnow, vA, vS, vP, vK, vR⟩ := hI
  refine lv_iconst (v := nI 0) hx hb dX6_hasSealed_0 (by decide +kernel) ?_
  refine lv_istore_n (lv' := [(2, .int (nI 0)), (0, .ref (al (0, 0, 0))), (1, .int x)]) hx hb dX6_hasSealed_1 rfl hl (by decide) rfl (fun ls hl => ?_)
  have lp2 : ∀ (i : Nat), i ≤ nf → ∀  (H : Heap) (locs : List Loc) (ls : Array Slot), anyB (fun f => bt x f && decide (nI nw ≤ sg 2 f 0)) i = false → xH E base al w H → va_S (xA base) s.heap H locs → lv_has ls 3 [(2, .int (nI i)), (1, .int x), (0, .ref (al (0, 0, 0)))] → W p9 l e9 ({ frames := 3, cells := 0, slots := 0, locals := 64 } : Room) s m9 ([.ref (al (0, 0, 0)), .int x] : List Value).toArray below meth c9 H locs 0 0 Q (F0 m9 2 ls []) := by
    refine lp_up ?_
    intro i hii ih2  H locs ls hy hH hS hl
    refine lv_iload_n hx hb dX6_hasSealed_2 rfl (lv_at hl 0 rfl) ?_
    refine lv_aload_n hx hb dX6_hasSealed_3 rfl (lv_at hl 2 rfl) ?_
    refine x_get C hH (ci := 7) (T := TX6) (N := 6) hX rfl iWX6 0 (by decide) qw_87 rfl rfl dX6_hasSealed_4 ?_
    refine x_callV C hH hS (ci := 0) (t := (0, 1, 0)) hLF rfl rfl (c_size l (E := E) (base := base) (al := al) hLF) hH kJx4a65c_size_8abf5 qw_197 qw_198 qw_196  rfl [.int (nI i)] rfl hl.1 (Nat.le_of_ble_eq_true rfl) ⟨Nat.le_of_ble_eq_true rfl, Nat.le_of_ble_eq_true rfl⟩ dX6_hasSealed_7 ⟨Nat.le_of_ble_eq_true rfl, Nat.le_of_ble_eq_true rfl⟩ (fun r_2 H locs hp_1 hS => ?_)
    obtain ⟨rfl, hH⟩ := hp_1
    refine lv_icmp_ge (tgt := 50) hx hb dX6_hasSealed_10 (by decide) (fun c_3 => ?_) (fun c_3 => ?_)
    · skip
      replace c_3 := (nI_leI (by omega) (by omega)).mp c_3
      refine lv_iconst (v := nI 0) hx hb dX6_hasSealed_50 (by decide +kernel) ?_
      rw [← hQ]
      refine x_reti C rfl hS (Nat.le_of_ble_eq_true rfl) (Nat.le_of_ble_eq_true rfl) dX6_hasSealed_51 ?_
      rw [hpost]
      have e8 : i = nf := by omega
      rw [e8] at hy
      exact ⟨by rw [show seld nf nw sg x = false from hy]; rfl, hH⟩
    · skip
      replace c_3 := mt (nI_leI (by omega) (by omega)).mpr c_3
      refine lv_iload_n hx hb dX6_hasSealed_13 rfl (lv_at hl 1 rfl) ?_
      refine lv_iload_n hx hb dX6_hasSealed_14 rfl (lv_at hl 0 rfl) ?_
      refine x_callS C hS (c_holds l (E := E) (base := base) (al := al) (w := w) (x := x) (k := i) (by omega)) hH kX6_holds qw_347 qw_346  rfl [] rfl hl.1 (Nat.le_of_ble_eq_true rfl) ⟨Nat.le_of_ble_eq_true rfl, Nat.le_of_ble_eq_true rfl⟩ dX6_hasSealed_15 ⟨Nat.le_of_ble_eq_true rfl, Nat.le_of_ble_eq_true rfl⟩ (fun r_5 H locs hp_4 hS => ?_)
      obtain ⟨rfl, hH⟩ := hp_4
      refine lv_if_eq (tgt := 44) hx hb dX6_hasSealed_18 (by decide) (fun c_6 => ?_) (fun c_6 => ?_)
      · skip
        replace c_6 := ob_0.mp c_6
        refine lv_iinc (v := nI (i + 1)) (lv' := [(2, .int (nI (i + 1))), (1, .int x), (0, .ref (al (0, 0, 0)))]) hx hb dX6_hasSealed_44 hl (k := 0) rfl (nI_1 _) (by decide) rfl (fun ls hl => ?_)
        refine lv_goto (tgt := 2) hx hb dX6_hasSealed_47 (by decide) ?_
        exact ih2 (by omega)  _ _ _ (by show (_ || _) = false; rw [hy]; simp [c_6]) hH hS (lv_sub hl [0, 1, 2] rfl)
      · skip
        replace c_6 := ob_n.mp c_6
        refine lv_aload_n hx hb dX6_hasSealed_21 rfl (lv_at hl 2 rfl) ?_
        refine x_get C hH (ci := 7) (T := TX6) (N := 6) hX rfl iWX6 0 (by decide) qw_87 rfl rfl dX6_hasSealed_22 ?_
        refine lv_iload_n hx hb dX6_hasSealed_25 rfl (lv_at hl 0 rfl) ?_
        obtain ⟨mcz_7, capz_7, gz_7, a1z_7, a2z_7, a3z_7, a4z_7, a5z_7⟩ := hF.at (i := i) (by omega)
        refine x_callV C hH hS (ci := 0) (t := (0, 1, 0)) a1z_7 rfl rfl (c_get l (E := E) (base := base) a1z_7 a2z_7 (i := i) (by omega) a3z_7 a4z_7 a5z_7) hH kJx4a65c_get_915e3 qw_323 qw_324 qw_322  rfl [] rfl hl.1 (Nat.le_of_ble_eq_true rfl) ⟨Nat.le_of_ble_eq_true rfl, Nat.le_of_ble_eq_true rfl⟩ dX6_hasSealed_26 ⟨Nat.le_of_ble_eq_true rfl, Nat.le_of_ble_eq_true rfl⟩ (fun r_9 H locs hp_8 hS => ?_)
        obtain ⟨rfl, hH⟩ := hp_8
        refine x_cast C hH (ci := 2) (hC i (by omega)) rfl qw_216 dX6_hasSealed_29 ?_
        refine lv_aload_n hx hb dX6_hasSealed_32 rfl (lv_at hl 2 rfl) ?_
        refine x_get C hH (ci := 7) (T := TX6) (N := 6) hX rfl iWX6 3 (by decide) qw_90 rfl rfl dX6_hasSealed_33 ?_
        refine x_callV C hH hS (ci := 2) (t := (1, i, 0)) (hC i (by omega)) rfl rfl (c_closed l (E := E) (base := base) (hC i (by omega)) (h := nI nw)) hH kX1_isClosedIn qw_510 qw_511 qw_509  rfl [] rfl hl.1 (Nat.le_of_ble_eq_true rfl) ⟨Nat.le_of_ble_eq_true rfl, Nat.le_of_ble_eq_true rfl⟩ dX6_hasSealed_36 ⟨Nat.le_of_ble_eq_true rfl, Nat.le_of_ble_eq_true rfl⟩ (fun r_11 H locs hp_10 hS => ?_)
        obtain ⟨rfl, hH⟩ := hp_10
        refine lv_if_eq (tgt := 44) hx hb dX6_hasSealed_39 (by decide) (fun c_12 => ?_) (fun c_12 => ?_)
        · skip
          replace c_12 := ob_0.mp c_12
          refine lv_iinc (v := nI (i + 1)) (lv' := [(2, .int (nI (i + 1))), (1, .int x), (0, .ref (al (0, 0, 0)))]) hx hb dX6_hasSealed_44 hl (k := 0) rfl (nI_1 _) (by decide) rfl (fun ls hl => ?_)
          refine lv_goto (tgt := 2) hx hb dX6_hasSealed_47 (by decide) ?_
          exact ih2 (by omega)  _ _ _ (by show (_ || _) = false; rw [hy]; simp [c_6, c_12]) hH hS (lv_sub hl [0, 1, 2] rfl)
        · skip
          replace c_12 := ob_n.mp c_12
          refine lv_iconst (v := nI 1) hx hb dX6_hasSealed_42 (by decide +kernel) ?_
          rw [← hQ]
          refine x_reti C rfl hS (Nat.le_of_ble_eq_true rfl) (Nat.le_of_ble_eq_true rfl) dX6_hasSealed_43 ?_
          rw [hpost]
          exact ⟨by rw [show seld nf nw sg x = true from anyB_t (P := (fun f => bt x f && decide (nI nw ≤ sg 2 f 0))) (i := i) (by simp [c_6, c_12]) _ (by omega)]; rfl, hH⟩
  exact lp2 0 (by omega)  _ _ _ rfl hH hS (lv_sub hl [0, 2, 1] rfl)

set_option maxHeartbeats 4000000 in
set_option maxRecDepth 100000 in
theorem c_sumOf (l : Launch) {E : xE} {base : Nat} {al : Tg → Nat} {w : Tg → Option va_E} {nf np na nw : Nat} {sg : Nat → Nat → Nat → Int32} {rc : Nat → Bool} (hR : RM E al w nf np na nw sg rc) (hI : INV nf np na nw sg rc) {x bit : Int32} : xMet l yX6_sumOf cX6_sumOf 5 (some (.int)) ({ frames := 3, cells := 0, slots := 0, locals := 64 } : Room) E base [.ref (al (0, 0, 0)), .int x, .int bit] (fun H => xH E base al w H) (fun r H => r = some (.int (tel bit (xoR x (fun f => sg 1 f 0) nf))) ∧ xH E base al w H) := by
  refine xMet.of (by decide +kernel) "Dataroom" rfl (Nat.le_of_ble_eq_true rfl) ?_
  intro p9 e9 s m9 below meth c9 ls C hin hP hS hl
  have hx := C.hx
  have hb := C.hb
  have hH := hP
  have hl : lv_has ls 5 [(0, .ref (al (0, 0, 0))), (1, .int x), (2, .int bit)] := hl
  obtain ⟨post, hpost⟩ : ∃ zz9 : Option Value → Heap → Prop, zz9 = (fun r H => r = some (.int (tel bit (xoR x (fun f => sg 1 f 0) nf))) ∧ xH E base al w H) := ⟨_, rfl⟩
  rw [← hpost]
  generalize hQ : (MQ below (xQ base post) ([.ref (al (0, 0, 0)), .int x, .int bit] : List Value).toArray s 0 0 (xA base)) = Q
  have hR0 := hR
  have hI0 := hI
  obtain ⟨hX, hF, hPl, hAl, hSh, hMk, hC, hPT, hAn⟩ := hR
  obtain ⟨mcF, aF, hLF⟩ := hF.sz
  obtain ⟨mcP, aP, hLP⟩ := hPl.sz
  obtain ⟨mcA, aA, hLA⟩ := hAl.sz
  obtain ⟨v16, v6, v150, vnow, vA, vS, vP, vK, vR⟩ := hI
  refine lv_iconst (v := nI 0) hx hb dX6_sumOf_0 (by decide +kernel) ?_
  refine lv_istore_n (lv' := [(3, .int (nI 0)), (0, .ref (al (0, 0, 0))), (1, .int x), (2, .int bit)]) hx hb dX6_sumOf_1 rfl hl (by decide) rfl (fun ls hl => ?_)
  refine lv_iconst (v := nI 0) hx hb dX6_sumOf_2 (by decide +kernel) ?_
  refine lv_istore (lv' := [(4, .int (nI 0)), (3, .int (nI 0)), (0, .ref (al (0, 0, 0))), (1, .int x), (2, .int bit)]) hx hb dX6_sumOf_3 hl (by decide) rfl (fun ls hl => ?_)
  have lp5 : ∀ (i : Nat), i ≤ nf → ∀ (y : Int32) (H : Heap) (locs : List Loc) (ls : Array Slot), y = xoR x (fun f => sg 1 f 0) i → xH E base al w H → va_S (xA base) s.heap H locs → lv_has ls 5 [(4, .int (nI i)), (3, .int y), (2, .int bit), (1, .int x), (0, .ref (al (0, 0, 0)))] → W p9 l e9 ({ frames := 3, cells := 0, slots := 0, locals := 64 } : Room) s m9 ([.ref (al (0, 0, 0)), .int x, .int bit] : List Value).toArray below meth c9 H locs 0 0 Q (F0 m9 5 ls []) := by
    refine lp_up ?_
    intro i hii ih5 y H locs ls hy hH hS hl
    refine lv_iload hx hb dX6_sumOf_5 (lv_at hl 0 rfl) ?_
    refine lv_aload_n hx hb dX6_sumOf_7 rfl (lv_at hl 4 rfl) ?_
    refine x_get C hH (ci := 7) (T := TX6) (N := 6) hX rfl iWX6 0 (by decide) qw_87 rfl rfl dX6_sumOf_8 ?_
    refine x_callV C hH hS (ci := 0) (t := (0, 1, 0)) hLF rfl rfl (c_size l (E := E) (base := base) (al := al) hLF) hH kJx4a65c_size_8abf5 qw_197 qw_198 qw_196  rfl [.int (nI i)] rfl hl.1 (Nat.le_of_ble_eq_true rfl) ⟨Nat.le_of_ble_eq_true rfl, Nat.le_of_ble_eq_true rfl⟩ dX6_sumOf_11 ⟨Nat.le_of_ble_eq_true rfl, Nat.le_of_ble_eq_true rfl⟩ (fun r_2 H locs hp_1 hS => ?_)
    obtain ⟨rfl, hH⟩ := hp_1
    refine lv_icmp_ge (tgt := 50) hx hb dX6_sumOf_14 (by decide) (fun c_3 => ?_) (fun c_3 => ?_)
    · skip
      replace c_3 := (nI_leI (by omega) (by omega)).mp c_3
      refine lv_iload_n hx hb dX6_sumOf_50 rfl (lv_at hl 2 rfl) ?_
      refine lv_iconst (v := (-1)) hx hb dX6_sumOf_51 (by decide +kernel) ?_
      refine lv_icmp_ne (tgt := 59) hx hb dX6_sumOf_52 (by decide) (fun c_4 => ?_) (fun c_4 => ?_)
      · skip
        refine lv_iload_n hx hb dX6_sumOf_59 rfl (lv_at hl 1 rfl) ?_
        refine lv_iload_n hx hb dX6_sumOf_60 rfl (lv_at hl 2 rfl) ?_
        refine lv_ishr hx hb dX6_sumOf_61 ?_
        refine lv_iconst (v := nI 1) hx hb dX6_sumOf_62 (by decide +kernel) ?_
        refine lv_iand hx hb dX6_sumOf_63 ?_
        rw [← hQ]
        refine x_reti C rfl hS (Nat.le_of_ble_eq_true rfl) (Nat.le_of_ble_eq_true rfl) dX6_sumOf_64 ?_
        rw [hpost]
        have e8 : i = nf := by omega
        rw [e8] at hy
        exact ⟨by unfold tel; rw [if_neg c_4, ← hy], hH⟩
      · skip
        refine lv_iload_n hx hb dX6_sumOf_55 rfl (lv_at hl 1 rfl) ?_
        refine lv_goto (tgt := 64) hx hb dX6_sumOf_56 (by decide) ?_
        rw [← hQ]
        refine x_reti C rfl hS (Nat.le_of_ble_eq_true rfl) (Nat.le_of_ble_eq_true rfl) dX6_sumOf_64 ?_
        rw [hpost]
        have e8 : i = nf := by omega
        rw [e8] at hy
        exact ⟨by unfold tel; rw [if_pos c_4, ← hy], hH⟩
    · skip
      replace c_3 := mt (nI_leI (by omega) (by omega)).mpr c_3
      refine lv_iload_n hx hb dX6_sumOf_17 rfl (lv_at hl 3 rfl) ?_
      refine lv_iload hx hb dX6_sumOf_18 (lv_at hl 0 rfl) ?_
      refine x_callS C hS (c_holds l (E := E) (base := base) (al := al) (w := w) (x := x) (k := i) (by omega)) hH kX6_holds qw_347 qw_346  rfl [] rfl hl.1 (Nat.le_of_ble_eq_true rfl) ⟨Nat.le_of_ble_eq_true rfl, Nat.le_of_ble_eq_true rfl⟩ dX6_sumOf_20 ⟨Nat.le_of_ble_eq_true rfl, Nat.le_of_ble_eq_true rfl⟩ (fun r_6 H locs hp_5 hS => ?_)
      obtain ⟨rfl, hH⟩ := hp_5
      refine lv_if_eq (tgt := 44) hx hb dX6_sumOf_23 (by decide) (fun c_7 => ?_) (fun c_7 => ?_)
      · skip
        replace c_7 := ob_0.mp c_7
        refine lv_iinc (v := nI (i + 1)) (lv' := [(4, .int (nI (i + 1))), (3, .int y), (2, .int bit), (1, .int x), (0, .ref (al (0, 0, 0)))]) hx hb dX6_sumOf_44 hl (k := 0) rfl (nI_1 _) (by decide) rfl (fun ls hl => ?_)
        refine lv_goto (tgt := 5) hx hb dX6_sumOf_47 (by decide) ?_
        exact ih5 (by omega) y _ _ _ (by subst hy; show _ = (if bt x i then _ else _); rw [c_7]; rfl) hH hS (lv_sub hl [0, 1, 2, 3, 4] rfl)
      · skip
        replace c_7 := ob_n.mp c_7
        refine lv_iload_n hx hb dX6_sumOf_26 rfl (lv_at hl 1 rfl) ?_
        refine lv_aload_n hx hb dX6_sumOf_27 rfl (lv_at hl 4 rfl) ?_
        refine x_get C hH (ci := 7) (T := TX6) (N := 6) hX rfl iWX6 0 (by decide) qw_87 rfl rfl dX6_sumOf_28 ?_
        refine lv_iload hx hb dX6_sumOf_31 (lv_at hl 0 rfl) ?_
        obtain ⟨mcz_8, capz_8, gz_8, a1z_8, a2z_8, a3z_8, a4z_8, a5z_8⟩ := hF.at (i := i) (by omega)
        refine x_callV C hH hS (ci := 0) (t := (0, 1, 0)) a1z_8 rfl rfl (c_get l (E := E) (base := base) a1z_8 a2z_8 (i := i) (by omega) a3z_8 a4z_8 a5z_8) hH kJx4a65c_get_915e3 qw_323 qw_324 qw_322  rfl [.int y] rfl hl.1 (Nat.le_of_ble_eq_true rfl) ⟨Nat.le_of_ble_eq_true rfl, Nat.le_of_ble_eq_true rfl⟩ dX6_sumOf_33 ⟨Nat.le_of_ble_eq_true rfl, Nat.le_of_ble_eq_true rfl⟩ (fun r_10 H locs hp_9 hS => ?_)
        obtain ⟨rfl, hH⟩ := hp_9
        refine x_cast C hH (ci := 2) (hC i (by omega)) rfl qw_216 dX6_sumOf_36 ?_
        refine x_getN C hH (ci := 2) (T := TX1) (N := 2) (hC i (by omega)) rfl iWX1 0 (by decide) nw_223 rfl rfl dX6_sumOf_39 ?_
        refine lv_ixor hx hb dX6_sumOf_42 ?_
        refine lv_istore_n (lv' := [(3, .int (y ^^^ (sg 1 i 0))), (4, .int (nI i)), (2, .int bit), (1, .int x), (0, .ref (al (0, 0, 0)))]) hx hb dX6_sumOf_43 rfl hl (by decide) rfl (fun ls hl => ?_)
        refine lv_iinc (v := nI (i + 1)) (lv' := [(4, .int (nI (i + 1))), (3, .int (y ^^^ (sg 1 i 0))), (2, .int bit), (1, .int x), (0, .ref (al (0, 0, 0)))]) hx hb dX6_sumOf_44 hl (k := 1) rfl (nI_1 _) (by decide) rfl (fun ls hl => ?_)
        refine lv_goto (tgt := 5) hx hb dX6_sumOf_47 (by decide) ?_
        exact ih5 (by omega) (y ^^^ (sg 1 i 0)) _ _ _ (by subst hy; show _ = (if bt x i then _ else _); rw [c_7]; rfl) hH hS (lv_sub hl [0, 1, 2, 3, 4] rfl)
  exact lp5 0 (by omega) (nI 0) _ _ _ rfl hH hS (lv_sub hl [0, 1, 4, 3, 2] rfl)

set_option maxHeartbeats 4000000 in
set_option maxRecDepth 100000 in
theorem c_refusal (l : Launch) {E : xE} {base : Nat} {al : Tg → Nat} {w : Tg → Option va_E} {nf np na nw : Nat} {sg : Nat → Nat → Nat → Int32} {rc : Nat → Bool} (hR : RM E al w nf np na nw sg rc) (hI : INV nf np na nw sg rc) {p : Nat} (hp : p < np) {x bit : Int32} : xMet l yX6_refusalOf cX6_refusalOf 4 (some (.int)) ({ frames := 5, cells := 0, slots := 0, locals := 114 } : Room) E base [.ref (al (0, 0, 0)), .ref (al (2, p, 0)), .int x, .int bit] (fun H => xH E base al w H) (fun r H => r = some (.int (-nI (fate nf na nw sg rc p x bit))) ∧ xH E base al w H) := by
  refine xMet.of (by decide +kernel) "Dataroom" rfl (Nat.le_of_ble_eq_true rfl) ?_
  intro p9 e9 s m9 below meth c9 ls C hin hP hS hl
  have hx := C.hx
  have hb := C.hb
  have hH := hP
  have hl : lv_has ls 4 [(0, .ref (al (0, 0, 0))), (1, .ref (al (2, p, 0))), (2, .int x), (3, .int bit)] := hl
  obtain ⟨post, hpost⟩ : ∃ zz9 : Option Value → Heap → Prop, zz9 = (fun r H => r = some (.int (-nI (fate nf na nw sg rc p x bit))) ∧ xH E base al w H) := ⟨_, rfl⟩
  rw [← hpost]
  generalize hQ : (MQ below (xQ base post) ([.ref (al (0, 0, 0)), .ref (al (2, p, 0)), .int x, .int bit] : List Value).toArray s 0 0 (xA base)) = Q
  have hR0 := hR
  have hI0 := hI
  obtain ⟨hX, hF, hPl, hAl, hSh, hMk, hC, hPT, hAn⟩ := hR
  obtain ⟨mcF, aF, hLF⟩ := hF.sz
  obtain ⟨mcP, aP, hLP⟩ := hPl.sz
  obtain ⟨mcA, aA, hLA⟩ := hAl.sz
  obtain ⟨v16, v6, v150, vnow, vA, vS, vP, vK, vR⟩ := hI
  refine lv_aload_n hx hb dX6_refusalOf_0 rfl (lv_at hl 0 rfl) ?_
  refine lv_aload_n hx hb dX6_refusalOf_1 rfl (lv_at hl 1 rfl) ?_
  refine lv_iload_n hx hb dX6_refusalOf_2 rfl (lv_at hl 2 rfl) ?_
  refine x_callV C hH hS (ci := 7) (t := (0, 0, 0)) hX rfl rfl (c_lacks l (E := E) (base := base) hR0 hI0 hp (x := x)) hH kX6_lacksRight qw_494 (ws_p (List.mem_of_getElem? (i := 11) rfl) rfl) qw_492  rfl [] rfl hl.1 (Nat.le_of_ble_eq_true rfl) ⟨Nat.le_of_ble_eq_true rfl, Nat.le_of_ble_eq_true rfl⟩ dX6_refusalOf_3 ⟨Nat.le_of_ble_eq_true rfl, Nat.le_of_ble_eq_true rfl⟩ (fun r_2 H locs hp_1 hS => ?_)
  obtain ⟨rfl, hH⟩ := hp_1
  refine lv_if_eq (tgt := 11) hx hb dX6_refusalOf_6 (by decide) (fun c_3 => ?_) (fun c_3 => ?_)
  · skip
    replace c_3 := ob_0.mp c_3
    refine lv_aload_n hx hb dX6_refusalOf_11 rfl (lv_at hl 0 rfl) ?_
    refine lv_iload_n hx hb dX6_refusalOf_12 rfl (lv_at hl 2 rfl) ?_
    refine x_callV C hH hS (ci := 7) (t := (0, 0, 0)) hX rfl rfl (c_sealed l (E := E) (base := base) hR0 hI0 (x := x)) hH kX6_hasSealed qw_507 (ws_p (List.mem_of_getElem? (i := 12) rfl) rfl) qw_505  rfl [] rfl hl.1 (Nat.le_of_ble_eq_true rfl) ⟨Nat.le_of_ble_eq_true rfl, Nat.le_of_ble_eq_true rfl⟩ dX6_refusalOf_13 ⟨Nat.le_of_ble_eq_true rfl, Nat.le_of_ble_eq_true rfl⟩ (fun r_5 H locs hp_4 hS => ?_)
    obtain ⟨rfl, hH⟩ := hp_4
    refine lv_if_eq (tgt := 22) hx hb dX6_refusalOf_16 (by decide) (fun c_6 => ?_) (fun c_6 => ?_)
    · skip
      replace c_6 := ob_0.mp c_6
      refine lv_aload_n hx hb dX6_refusalOf_22 rfl (lv_at hl 1 rfl) ?_
      refine lv_iload_n hx hb dX6_refusalOf_23 rfl (lv_at hl 2 rfl) ?_
      refine lv_iload_n hx hb dX6_refusalOf_24 rfl (lv_at hl 3 rfl) ?_
      refine lv_aload_n hx hb dX6_refusalOf_25 rfl (lv_at hl 0 rfl) ?_
      refine x_get C hH (ci := 7) (T := TX6) (N := 6) hX rfl iWX6 3 (by decide) qw_90 rfl rfl dX6_refusalOf_26 ?_
      refine x_callV C hH hS (ci := 5) (t := (2, p, 0)) (hPT p (by omega)).1 rfl rfl (c_unread l (E := E) (base := base) (hPT p hp) (x := x) (bit := bit) (hh := nI nw)) hH kX4_wouldFindUnread qw_514 qw_515 qw_513  rfl [] rfl hl.1 (Nat.le_of_ble_eq_true rfl) ⟨Nat.le_of_ble_eq_true rfl, Nat.le_of_ble_eq_true rfl⟩ dX6_refusalOf_29 ⟨Nat.le_of_ble_eq_true rfl, Nat.le_of_ble_eq_true rfl⟩ (fun r_8 H locs hp_7 hS => ?_)
      obtain ⟨rfl, hH⟩ := hp_7
      refine lv_if_eq (tgt := 38) hx hb dX6_refusalOf_32 (by decide) (fun c_9 => ?_) (fun c_9 => ?_)
      · skip
        replace c_9 := ob_0.mp c_9
        refine lv_aload_n hx hb dX6_refusalOf_38 rfl (lv_at hl 1 rfl) ?_
        refine x_callV C hH hS (ci := 5) (t := (2, p, 0)) (hPT p (by omega)).1 rfl rfl (c_learned l (E := E) (base := base) (hPT p (by omega))) hH kX4_learnedInAll qw_531 qw_532 qw_530  rfl [] rfl hl.1 (Nat.le_of_ble_eq_true rfl) ⟨Nat.le_of_ble_eq_true rfl, Nat.le_of_ble_eq_true rfl⟩ dX6_refusalOf_39 ⟨Nat.le_of_ble_eq_true rfl, Nat.le_of_ble_eq_true rfl⟩ (fun r_11 H locs hp_10 hS => ?_)
        obtain ⟨rfl, hH⟩ := hp_10
        refine lv_aload_n hx hb dX6_refusalOf_42 rfl (lv_at hl 1 rfl) ?_
        refine lv_iload_n hx hb dX6_refusalOf_43 rfl (lv_at hl 2 rfl) ?_
        refine lv_iload_n hx hb dX6_refusalOf_44 rfl (lv_at hl 3 rfl) ?_
        refine x_callV C hH hS (ci := 5) (t := (2, p, 0)) (hPT p (by omega)).1 rfl rfl (c_costOf l (E := E) (base := base) (hPT p (by omega)) (x := x) (bit := bit)) hH kX4_costOf qw_535 qw_536 qw_534  rfl [.int (nI (sC (KCs sg rc na p) 8))] rfl hl.1 (Nat.le_of_ble_eq_true rfl) ⟨Nat.le_of_ble_eq_true rfl, Nat.le_of_ble_eq_true rfl⟩ dX6_refusalOf_45 ⟨Nat.le_of_ble_eq_true rfl, Nat.le_of_ble_eq_true rfl⟩ (fun r_13 H locs hp_12 hS => ?_)
        obtain ⟨rfl, hH⟩ := hp_12
        refine lv_iadd hx hb dX6_refusalOf_48 ?_
        refine lv_re (nI_add _ _) ?_
        refine lv_aload_n hx hb dX6_refusalOf_49 rfl (lv_at hl 1 rfl) ?_
        refine x_getN C hH (ci := 5) (T := TX4) (N := 5) (hPT p (by omega)).1 rfl iWX4 1 (by decide) nw_395 rfl rfl dX6_refusalOf_50 ?_
        refine lv_icmp_le (tgt := 59) hx hb dX6_refusalOf_53 (by decide) (fun c_14 => ?_) (fun c_14 => ?_)
        · skip
          refine lv_iconst (v := nI 0) hx hb dX6_refusalOf_59 (by decide +kernel) ?_
          rw [← hQ]
          refine x_reti C rfl hS (Nat.le_of_ble_eq_true rfl) (Nat.le_of_ble_eq_true rfl) dX6_refusalOf_60 ?_
          rw [hpost]
          exact ⟨by unfold fate; simp only [c_3, c_6, (show wTl nw na sg rc p x bit = false from c_9), show dear na sg rc p x bit = false from decide_eq_false (Int32.not_lt.mpr c_14), if_true, if_false, Bool.false_eq_true]; rfl, hH⟩
        · skip
          refine lv_bipush (v := (-4)) hx hb dX6_refusalOf_56 (by decide +kernel) ?_
          rw [← hQ]
          refine x_reti C rfl hS (Nat.le_of_ble_eq_true rfl) (Nat.le_of_ble_eq_true rfl) dX6_refusalOf_58 ?_
          rw [hpost]
          exact ⟨by unfold fate; simp only [c_3, c_6, (show wTl nw na sg rc p x bit = false from c_9), show dear na sg rc p x bit = true from decide_eq_true (Int32.not_le.mp c_14), if_true, if_false, Bool.false_eq_true]; rfl, hH⟩
      · skip
        replace c_9 := ob_n.mp c_9
        refine lv_bipush (v := (-3)) hx hb dX6_refusalOf_35 (by decide +kernel) ?_
        rw [← hQ]
        refine x_reti C rfl hS (Nat.le_of_ble_eq_true rfl) (Nat.le_of_ble_eq_true rfl) dX6_refusalOf_37 ?_
        rw [hpost]
        exact ⟨by unfold fate; simp only [c_3, c_6, (show wTl nw na sg rc p x bit = true from c_9), if_true, if_false, Bool.false_eq_true]; rfl, hH⟩
    · skip
      replace c_6 := ob_n.mp c_6
      refine lv_bipush (v := (-2)) hx hb dX6_refusalOf_19 (by decide +kernel) ?_
      rw [← hQ]
      refine x_reti C rfl hS (Nat.le_of_ble_eq_true rfl) (Nat.le_of_ble_eq_true rfl) dX6_refusalOf_21 ?_
      rw [hpost]
      exact ⟨by unfold fate; simp only [c_3, c_6, if_true, if_false, Bool.false_eq_true]; rfl, hH⟩
  · skip
    replace c_3 := ob_n.mp c_3
    refine lv_iconst (v := (-1)) hx hb dX6_refusalOf_9 (by decide +kernel) ?_
    rw [← hQ]
    refine x_reti C rfl hS (Nat.le_of_ble_eq_true rfl) (Nat.le_of_ble_eq_true rfl) dX6_refusalOf_10 ?_
    rw [hpost]
    exact ⟨by unfold fate; simp only [c_3, if_true, if_false, Bool.false_eq_true]; rfl, hH⟩

set_option maxHeartbeats 4000000 in
set_option maxRecDepth 100000 in
theorem c_cSt (l : Launch) {E : xE} {base : Nat} {al : Tg → Nat} {w : Tg → Option va_E} {nf np na nw : Nat} {sg : Nat → Nat → Nat → Int32} {rc : Nat → Bool} (hR : RM E al w nf np na nw sg rc) (hI : INV nf np na nw sg rc) {p : Nat} (hp : p < np) : xMet l yX6_countStanding cX6_countStanding 4 (some (.int)) ({ frames := 3, cells := 0, slots := 0, locals := 64 } : Room) E base [.ref (al (0, 0, 0)), .ref (al (2, p, 0))] (fun H => xH E base al w H) (fun r H => r = some (.int (nI (cSt sg rc p na))) ∧ xH E base al w H) := by
  refine xMet.of (by decide +kernel) "Dataroom" rfl (Nat.le_of_ble_eq_true rfl) ?_
  intro p9 e9 s m9 below meth c9 ls C hin hP hS hl
  have hx := C.hx
  have hb := C.hb
  have hH := hP
  have hl : lv_has ls 4 [(0, .ref (al (0, 0, 0))), (1, .ref (al (2, p, 0)))] := hl
  obtain ⟨post, hpost⟩ : ∃ zz9 : Option Value → Heap → Prop, zz9 = (fun r H => r = some (.int (nI (cSt sg rc p na))) ∧ xH E base al w H) := ⟨_, rfl⟩
  rw [← hpost]
  generalize hQ : (MQ below (xQ base post) ([.ref (al (0, 0, 0)), .ref (al (2, p, 0))] : List Value).toArray s 0 0 (xA base)) = Q
  have hR0 := hR
  have hI0 := hI
  obtain ⟨hX, hF, hPl, hAl, hSh, hMk, hC, hPT, hAn⟩ := hR
  obtain ⟨mcF, aF, hLF⟩ := hF.sz
  obtain ⟨mcP, aP, hLP⟩ := hPl.sz
  obtain ⟨mcA, aA, hLA⟩ := hAl.sz
  obtain ⟨v16, v6, v150, vnow, vA, vS, vP, vK, vR⟩ := hI
  refine lv_iconst (v := nI 0) hx hb dX6_countStanding_0 (by decide +kernel) ?_
  refine lv_istore_n (lv' := [(2, .int (nI 0)), (0, .ref (al (0, 0, 0))), (1, .ref (al (2, p, 0)))]) hx hb dX6_countStanding_1 rfl hl (by decide) rfl (fun ls hl => ?_)
  refine lv_iconst (v := nI 0) hx hb dX6_countStanding_2 (by decide +kernel) ?_
  refine lv_istore_n (lv' := [(3, .int (nI 0)), (2, .int (nI 0)), (0, .ref (al (0, 0, 0))), (1, .ref (al (2, p, 0)))]) hx hb dX6_countStanding_3 rfl hl (by decide) rfl (fun ls hl => ?_)
  have lp4 : ∀ (i : Nat), i ≤ na → ∀ (y : Nat) (H : Heap) (locs : List Loc) (ls : Array Slot), y = cSt sg rc p i → xH E base al w H → va_S (xA base) s.heap H locs → lv_has ls 4 [(3, .int (nI i)), (2, .int (nI y)), (1, .ref (al (2, p, 0))), (0, .ref (al (0, 0, 0)))] → W p9 l e9 ({ frames := 3, cells := 0, slots := 0, locals := 64 } : Room) s m9 ([.ref (al (0, 0, 0)), .ref (al (2, p, 0))] : List Value).toArray below meth c9 H locs 0 0 Q (F0 m9 4 ls []) := by
    refine lp_up ?_
    intro i hii ih4 y H locs ls hy hH hS hl
    have hy9 := cSt_le (sg := sg) (rc := rc) (p := p) i
    refine lv_iload_n hx hb dX6_countStanding_4 rfl (lv_at hl 0 rfl) ?_
    refine lv_aload_n hx hb dX6_countStanding_5 rfl (lv_at hl 3 rfl) ?_
    refine x_get C hH (ci := 7) (T := TX6) (N := 6) hX rfl iWX6 2 (by decide) qw_89 rfl rfl dX6_countStanding_6 ?_
    refine x_callV C hH hS (ci := 0) (t := (0, 3, 0)) hLA rfl rfl (c_size l (E := E) (base := base) (al := al) hLA) hH kJx4a65c_size_8abf5 qw_197 qw_198 qw_196  rfl [.int (nI i)] rfl hl.1 (Nat.le_of_ble_eq_true rfl) ⟨Nat.le_of_ble_eq_true rfl, Nat.le_of_ble_eq_true rfl⟩ dX6_countStanding_9 ⟨Nat.le_of_ble_eq_true rfl, Nat.le_of_ble_eq_true rfl⟩ (fun r_2 H locs hp_1 hS => ?_)
    obtain ⟨rfl, hH⟩ := hp_1
    refine lv_icmp_ge (tgt := 42) hx hb dX6_countStanding_12 (by decide) (fun c_3 => ?_) (fun c_3 => ?_)
    · skip
      replace c_3 := (nI_leI (by omega) (by omega)).mp c_3
      refine lv_iload_n hx hb dX6_countStanding_42 rfl (lv_at hl 1 rfl) ?_
      rw [← hQ]
      refine x_reti C rfl hS (Nat.le_of_ble_eq_true rfl) (Nat.le_of_ble_eq_true rfl) dX6_countStanding_43 ?_
      rw [hpost]
      have e8 : i = na := by omega
      rw [e8] at hy
      exact ⟨by rw [hy], hH⟩
    · skip
      replace c_3 := mt (nI_leI (by omega) (by omega)).mpr c_3
      refine lv_aload_n hx hb dX6_countStanding_15 rfl (lv_at hl 3 rfl) ?_
      refine x_get C hH (ci := 7) (T := TX6) (N := 6) hX rfl iWX6 2 (by decide) qw_89 rfl rfl dX6_countStanding_16 ?_
      refine lv_iload_n hx hb dX6_countStanding_19 rfl (lv_at hl 0 rfl) ?_
      obtain ⟨mcz_4, capz_4, gz_4, a1z_4, a2z_4, a3z_4, a4z_4, a5z_4⟩ := hAl.at (i := i) (by omega)
      refine x_callV C hH hS (ci := 0) (t := (0, 3, 0)) a1z_4 rfl rfl (c_get l (E := E) (base := base) a1z_4 a2z_4 (i := i) (by omega) a3z_4 a4z_4 a5z_4) hH kJx4a65c_get_915e3 qw_323 qw_324 qw_322  rfl [] rfl hl.1 (Nat.le_of_ble_eq_true rfl) ⟨Nat.le_of_ble_eq_true rfl, Nat.le_of_ble_eq_true rfl⟩ dX6_countStanding_20 ⟨Nat.le_of_ble_eq_true rfl, Nat.le_of_ble_eq_true rfl⟩ (fun r_6 H locs hp_5 hS => ?_)
      obtain ⟨rfl, hH⟩ := hp_5
      refine x_cast C hH (ci := 1) (hAn i (by omega)) rfl qw_341 dX6_countStanding_23 ?_
      refine lv_aload_n hx hb dX6_countStanding_26 rfl (lv_at hl 2 rfl) ?_
      refine x_callV C hH hS (ci := 1) (t := (6, i, 0)) (hAn i (by omega)) rfl rfl (c_stands l (E := E) (base := base) (hAn i (by omega)) (hPT p (by omega)).1) hH kX0_standsFor qw_343 qw_344 qw_342  rfl [] rfl hl.1 (Nat.le_of_ble_eq_true rfl) ⟨Nat.le_of_ble_eq_true rfl, Nat.le_of_ble_eq_true rfl⟩ dX6_countStanding_27 ⟨Nat.le_of_ble_eq_true rfl, Nat.le_of_ble_eq_true rfl⟩ (fun r_8 H locs hp_7 hS => ?_)
      obtain ⟨rfl, hH⟩ := hp_7
      refine lv_if_eq (tgt := 36) hx hb dX6_countStanding_30 (by decide) (fun c_9 => ?_) (fun c_9 => ?_)
      · skip
        replace c_9 := ob_0.mp c_9
        refine lv_iinc (v := nI (i + 1)) (lv' := [(3, .int (nI (i + 1))), (2, .int (nI y)), (1, .ref (al (2, p, 0))), (0, .ref (al (0, 0, 0)))]) hx hb dX6_countStanding_36 hl (k := 0) rfl (nI_1 _) (by decide) rfl (fun ls hl => ?_)
        refine lv_goto (tgt := 4) hx hb dX6_countStanding_39 (by decide) ?_
        exact ih4 (by omega) y _ _ _ (by subst hy; show _ = cSt sg rc p i + (if _ then 1 else 0); rw [c_9]; rfl) hH hS (lv_sub hl [0, 1, 2, 3] rfl)
      · skip
        replace c_9 := ob_n.mp c_9
        refine lv_iinc (v := nI (y + 1)) (lv' := [(2, .int (nI (y + 1))), (3, .int (nI i)), (1, .ref (al (2, p, 0))), (0, .ref (al (0, 0, 0)))]) hx hb dX6_countStanding_33 hl (k := 1) rfl (nI_1 _) (by decide) rfl (fun ls hl => ?_)
        refine lv_iinc (v := nI (i + 1)) (lv' := [(3, .int (nI (i + 1))), (2, .int (nI (y + 1))), (1, .ref (al (2, p, 0))), (0, .ref (al (0, 0, 0)))]) hx hb dX6_countStanding_36 hl (k := 1) rfl (nI_1 _) (by decide) rfl (fun ls hl => ?_)
        refine lv_goto (tgt := 4) hx hb dX6_countStanding_39 (by decide) ?_
        exact ih4 (by omega) (y + 1) _ _ _ (by subst hy; show _ = cSt sg rc p i + (if _ then 1 else 0); rw [c_9]; rfl) hH hS (lv_sub hl [0, 1, 2, 3] rfl)
  exact lp4 0 (by omega) 0 _ _ _ rfl hH hS (lv_sub hl [0, 1, 3, 2] rfl)

set_option maxHeartbeats 4000000 in
set_option maxRecDepth 100000 in
theorem c_spent (l : Launch) (hfl : l.stackTraces = false) {E : xE} {base : Nat} {al : Tg → Nat} {w : Tg → Option va_E} {nf np na nw : Nat} {sg : Nat → Nat → Nat → Int32} {rc : Nat → Bool} (hR : RM E al w nf np na nw sg rc) (hI : INV nf np na nw sg rc) {x : Int32} : xMetX l yX6_spent cX6_spent 2 (some (.int)) ({ frames := 7, cells := 1, slots := 6, locals := 103 } : Room) E base [.ref (al (0, 0, 0)), .int x] (fun H => xH E base al w H) (fun r H => ∃ p, p < np ∧ x = nI p ∧ r = some (.int (nI (sC (KCs sg rc na p) 8))) ∧ xH E base al w H) (fun X H => X = "java/lang/IndexOutOfBoundsException" ∧ ¬ inR x np ∧ xH E base al w H) := by
  refine xMetX.of (by decide +kernel) "Dataroom" rfl (Nat.le_of_ble_eq_true rfl) ?_
  intro p9 e9 s m9 below meth c9 ls C het hP hS hl
  have hx := C.hx
  have hb := C.hb
  have hH := hP
  have hl : lv_has ls 2 [(0, .ref (al (0, 0, 0))), (1, .int x)] := hl
  obtain ⟨post, hpost⟩ : ∃ zz9 : Option Value → Heap → Prop, zz9 = (fun r H => ∃ p, p < np ∧ x = nI p ∧ r = some (.int (nI (sC (KCs sg rc na p) 8))) ∧ xH E base al w H) := ⟨_, rfl⟩
  obtain ⟨px, hpx⟩ : ∃ zz9 : String → Heap → Prop, zz9 = (fun X H => X = "java/lang/IndexOutOfBoundsException" ∧ ¬ inR x np ∧ xH E base al w H) := ⟨_, rfl⟩
  rw [← hpost, ← hpx]
  generalize hQ : (vx_MQ below (xQ base post) (xX base px) ([.ref (al (0, 0, 0)), .int x] : List Value).toArray s 1 6 (xA base)) = Q
  have hR0 := hR
  have hI0 := hI
  obtain ⟨hX, hF, hPl, hAl, hSh, hMk, hC, hPT, hAn⟩ := hR
  obtain ⟨mcF, aF, hLF⟩ := hF.sz
  obtain ⟨mcP, aP, hLP⟩ := hPl.sz
  obtain ⟨mcA, aA, hLA⟩ := hAl.sz
  obtain ⟨v16, v6, v150, vnow, vA, vS, vP, vK, vR⟩ := hI
  refine lv_aload_n hx hb dX6_spent_0 rfl (lv_at hl 0 rfl) ?_
  refine lv_iload_n hx hb dX6_spent_1 rfl (lv_at hl 1 rfl) ?_
  refine x_thrV C hH hS (ci := 7) (t := (0, 0, 0)) hX rfl rfl (c_pAt l hfl (E := E) (base := base) hR0 hI0 (x := x)) hH kX6_partyAt qw_420 (ws_p (List.mem_of_getElem? (i := 8) rfl) rfl) qw_418  rfl [] rfl hl.1 (Nat.le_of_ble_eq_true rfl) ⟨Nat.le_of_ble_eq_true rfl, Nat.le_of_ble_eq_true rfl⟩ dX6_spent_2 ⟨Nat.le_of_ble_eq_true rfl, Nat.le_of_ble_eq_true rfl⟩ (fun X ce q9 H locs hp_1 hS hce hcv hcl => ?_) (fun r_2 H locs hp_1 hS => ?_)
  · skip
    obtain ⟨rfl, hno, hH⟩ := hp_1
    rw [← hQ]
    refine x_outX C het hS hce hcv hcl (Nat.le_of_ble_eq_true rfl) (Nat.le_of_ble_eq_true rfl) ?_
    rw [hpx]
    exact ⟨rfl, hno, hH⟩
  · skip
    obtain ⟨p_3, hp_3, rfl, rfl, hH⟩ := hp_1
    refine x_callV C hH hS (ci := 5) (t := (2, p_3, 0)) (hPT p_3 (by omega)).1 rfl rfl (c_learned l (E := E) (base := base) (hPT p_3 (by omega))) hH kX4_learnedInAll qw_531 qw_532 qw_530  rfl [] rfl hl.1 (Nat.le_of_ble_eq_true rfl) ⟨Nat.le_of_ble_eq_true rfl, Nat.le_of_ble_eq_true rfl⟩ dX6_spent_5 ⟨Nat.le_of_ble_eq_true rfl, Nat.le_of_ble_eq_true rfl⟩ (fun r_5 H locs hp_4 hS => ?_)
    obtain ⟨rfl, hH⟩ := hp_4
    rw [← hQ]
    refine vx_ret (x_reti C rfl hS (Nat.le_of_ble_eq_true rfl) (Nat.le_of_ble_eq_true rfl) dX6_spent_8 ?_)
    rw [hpost]
    exact ⟨p_3, hp_3, rfl, rfl, hH⟩

set_option maxHeartbeats 4000000 in
set_option maxRecDepth 100000 in
theorem c_rightTo (l : Launch) (hfl : l.stackTraces = false) {E : xE} {base : Nat} {al : Tg → Nat} {w : Tg → Option va_E} {nf np na nw : Nat} {sg : Nat → Nat → Nat → Int32} {rc : Nat → Bool} (hR : RM E al w nf np na nw sg rc) (hI : INV nf np na nw sg rc) {x z : Int32} : xMetX l yX6_rightTo cX6_rightTo 4 (some (.int)) ({ frames := 7, cells := 2, slots := 12, locals := 103 } : Room) E base [.ref (al (0, 0, 0)), .int x, .int z] (fun H => xH E base al w H) (fun r H => ∃ p f, p < np ∧ f < nf ∧ x = nI p ∧ z = nI f ∧ r = some (.int (rIn (sg 4 p f) (sg 5 p f) (sg 6 p f) (nI nw))) ∧ xH E base al w H) (fun X H => X = "java/lang/IndexOutOfBoundsException" ∧ ¬ (inR x np ∧ inR z nf) ∧ xH E base al w H) := by
  refine xMetX.of (by decide +kernel) "Dataroom" rfl (Nat.le_of_ble_eq_true rfl) ?_
  intro p9 e9 s m9 below meth c9 ls C het hP hS hl
  have hx := C.hx
  have hb := C.hb
  have hH := hP
  have hl : lv_has ls 4 [(0, .ref (al (0, 0, 0))), (1, .int x), (2, .int z)] := hl
  obtain ⟨post, hpost⟩ : ∃ zz9 : Option Value → Heap → Prop, zz9 = (fun r H => ∃ p f, p < np ∧ f < nf ∧ x = nI p ∧ z = nI f ∧ r = some (.int (rIn (sg 4 p f) (sg 5 p f) (sg 6 p f) (nI nw))) ∧ xH E base al w H) := ⟨_, rfl⟩
  obtain ⟨px, hpx⟩ : ∃ zz9 : String → Heap → Prop, zz9 = (fun X H => X = "java/lang/IndexOutOfBoundsException" ∧ ¬ (inR x np ∧ inR z nf) ∧ xH E base al w H) := ⟨_, rfl⟩
  rw [← hpost, ← hpx]
  generalize hQ : (vx_MQ below (xQ base post) (xX base px) ([.ref (al (0, 0, 0)), .int x, .int z] : List Value).toArray s 2 12 (xA base)) = Q
  have hR0 := hR
  have hI0 := hI
  obtain ⟨hX, hF, hPl, hAl, hSh, hMk, hC, hPT, hAn⟩ := hR
  obtain ⟨mcF, aF, hLF⟩ := hF.sz
  obtain ⟨mcP, aP, hLP⟩ := hPl.sz
  obtain ⟨mcA, aA, hLA⟩ := hAl.sz
  obtain ⟨v16, v6, v150, vnow, vA, vS, vP, vK, vR⟩ := hI
  refine lv_aload_n hx hb dX6_rightTo_0 rfl (lv_at hl 0 rfl) ?_
  refine lv_iload_n hx hb dX6_rightTo_1 rfl (lv_at hl 1 rfl) ?_
  refine x_thrV C hH hS (ci := 7) (t := (0, 0, 0)) hX rfl rfl (c_pAt l hfl (E := E) (base := base) hR0 hI0 (x := x)) hH kX6_partyAt qw_420 (ws_p (List.mem_of_getElem? (i := 8) rfl) rfl) qw_418  rfl [] rfl hl.1 (Nat.le_of_ble_eq_true rfl) ⟨Nat.le_of_ble_eq_true rfl, Nat.le_of_ble_eq_true rfl⟩ dX6_rightTo_2 ⟨Nat.le_of_ble_eq_true rfl, Nat.le_of_ble_eq_true rfl⟩ (fun X ce q9 H locs hp_1 hS hce hcv hcl => ?_) (fun r_2 H locs hp_1 hS => ?_)
  · skip
    obtain ⟨rfl, hno, hH⟩ := hp_1
    rw [← hQ]
    refine x_outX C het hS hce hcv hcl (Nat.le_of_ble_eq_true rfl) (Nat.le_of_ble_eq_true rfl) ?_
    rw [hpx]
    exact ⟨rfl, fun q => hno q.1, hH⟩
  · skip
    obtain ⟨p_3, hp_3, rfl, rfl, hH⟩ := hp_1
    refine lv_astore_n (lv' := [(3, .ref (al (2, p_3, 0))), (0, .ref (al (0, 0, 0))), (1, .int (nI p_3)), (2, .int z)]) hx hb dX6_rightTo_5 rfl hl (by decide) rfl (fun ls hl => ?_)
    refine lv_aload_n hx hb dX6_rightTo_6 rfl (lv_at hl 1 rfl) ?_
    refine lv_iload_n hx hb dX6_rightTo_7 rfl (lv_at hl 3 rfl) ?_
    refine x_thrV C hH hS (ci := 7) (t := (0, 0, 0)) hX rfl rfl (c_rFile l hfl (E := E) (base := base) hR0 hI0 (x := z)) hH kX6_requireFile qw_304 (ws_p (List.mem_of_getElem? (i := 5) rfl) rfl) qw_302  rfl [] rfl hl.1 (Nat.le_of_ble_eq_true rfl) ⟨Nat.le_of_ble_eq_true rfl, Nat.le_of_ble_eq_true rfl⟩ dX6_rightTo_8 ⟨Nat.le_of_ble_eq_true rfl, Nat.le_of_ble_eq_true rfl⟩ (fun X ce q9 H locs hp_4 hS hce hcv hcl => ?_) (fun r_5 H locs hp_4 hS => ?_)
    · skip
      obtain ⟨rfl, hno, hH⟩ := hp_4
      rw [← hQ]
      refine x_outX C het hS hce hcv hcl (Nat.le_of_ble_eq_true rfl) (Nat.le_of_ble_eq_true rfl) ?_
      rw [hpx]
      exact ⟨rfl, fun q => hno q.2, hH⟩
    · skip
      obtain ⟨rfl, ⟨f_6, hf_6, rfl⟩, hH⟩ := hp_4
      refine lv_aload_n hx hb dX6_rightTo_11 rfl (lv_at hl 0 rfl) ?_
      refine lv_aload_n hx hb dX6_rightTo_12 rfl (lv_at hl 1 rfl) ?_
      refine x_get C hH (ci := 7) (T := TX6) (N := 6) hX rfl iWX6 3 (by decide) qw_90 rfl rfl dX6_rightTo_13 ?_
      refine lv_iload_n hx hb dX6_rightTo_16 rfl (lv_at hl 3 rfl) ?_
      refine x_callV C hH hS (ci := 5) (t := (2, p_3, 0)) (hPT p_3 (by omega)).1 rfl rfl (c_rightIn l (E := E) (base := base) (hPT p_3 (by omega)) (f := f_6) (hh := nI nw) (by omega)) hH kX4_rightIn qw_497 qw_498 qw_496  rfl [] rfl hl.1 (Nat.le_of_ble_eq_true rfl) ⟨Nat.le_of_ble_eq_true rfl, Nat.le_of_ble_eq_true rfl⟩ dX6_rightTo_17 ⟨Nat.le_of_ble_eq_true rfl, Nat.le_of_ble_eq_true rfl⟩ (fun r_8 H locs hp_7 hS => ?_)
      obtain ⟨rfl, hH⟩ := hp_7
      rw [← hQ]
      refine vx_ret (x_reti C rfl hS (Nat.le_of_ble_eq_true rfl) (Nat.le_of_ble_eq_true rfl) dX6_rightTo_20 ?_)
      rw [hpost]
      exact ⟨p_3, f_6, hp_3, hf_6, rfl, rfl, rfl, hH⟩

set_option maxHeartbeats 4000000 in
set_option maxRecDepth 100000 in
theorem c_isSealed (l : Launch) (hfl : l.stackTraces = false) {E : xE} {base : Nat} {al : Tg → Nat} {w : Tg → Option va_E} {nf np na nw : Nat} {sg : Nat → Nat → Nat → Int32} {rc : Nat → Bool} (hR : RM E al w nf np na nw sg rc) (hI : INV nf np na nw sg rc) {x : Int32} : xMetX l yX6_isSealed cX6_isSealed 2 (some (.boolean)) ({ frames := 8, cells := 1, slots := 6, locals := 124 } : Room) E base [.ref (al (0, 0, 0)), .int x] (fun H => xH E base al w H) (fun r H => ∃ f, f < nf ∧ x = nI f ∧ r = some (.int (ob (decide (nI nw ≤ sg 2 f 0)))) ∧ xH E base al w H) (fun X H => X = "java/lang/IndexOutOfBoundsException" ∧ ¬ inR x nf ∧ xH E base al w H) := by
  refine xMetX.of (by decide +kernel) "Dataroom" rfl (Nat.le_of_ble_eq_true rfl) ?_
  intro p9 e9 s m9 below meth c9 ls C het hP hS hl
  have hx := C.hx
  have hb := C.hb
  have hH := hP
  have hl : lv_has ls 2 [(0, .ref (al (0, 0, 0))), (1, .int x)] := hl
  obtain ⟨post, hpost⟩ : ∃ zz9 : Option Value → Heap → Prop, zz9 = (fun r H => ∃ f, f < nf ∧ x = nI f ∧ r = some (.int (ob (decide (nI nw ≤ sg 2 f 0)))) ∧ xH E base al w H) := ⟨_, rfl⟩
  obtain ⟨px, hpx⟩ : ∃ zz9 : String → Heap → Prop, zz9 = (fun X H => X = "java/lang/IndexOutOfBoundsException" ∧ ¬ inR x nf ∧ xH E base al w H) := ⟨_, rfl⟩
  rw [← hpost, ← hpx]
  generalize hQ : (vx_MQ below (xQ base post) (xX base px) ([.ref (al (0, 0, 0)), .int x] : List Value).toArray s 1 6 (xA base)) = Q
  have hR0 := hR
  have hI0 := hI
  obtain ⟨hX, hF, hPl, hAl, hSh, hMk, hC, hPT, hAn⟩ := hR
  obtain ⟨mcF, aF, hLF⟩ := hF.sz
  obtain ⟨mcP, aP, hLP⟩ := hPl.sz
  obtain ⟨mcA, aA, hLA⟩ := hAl.sz
  obtain ⟨v16, v6, v150, vnow, vA, vS, vP, vK, vR⟩ := hI
  refine lv_aload_n hx hb dX6_isSealed_0 rfl (lv_at hl 0 rfl) ?_
  refine lv_iload_n hx hb dX6_isSealed_1 rfl (lv_at hl 1 rfl) ?_
  refine x_thrV C hH hS (ci := 7) (t := (0, 0, 0)) hX rfl rfl (c_fAt l hfl (E := E) (base := base) hR0 hI0 (x := x)) hH kX6_fileAt qw_300 (ws_p (List.mem_of_getElem? (i := 4) rfl) rfl) qw_298  rfl [] rfl hl.1 (Nat.le_of_ble_eq_true rfl) ⟨Nat.le_of_ble_eq_true rfl, Nat.le_of_ble_eq_true rfl⟩ dX6_isSealed_2 ⟨Nat.le_of_ble_eq_true rfl, Nat.le_of_ble_eq_true rfl⟩ (fun X ce q9 H locs hp_1 hS hce hcv hcl => ?_) (fun r_2 H locs hp_1 hS => ?_)
  · skip
    obtain ⟨rfl, hno, hH⟩ := hp_1
    rw [← hQ]
    refine x_outX C het hS hce hcv hcl (Nat.le_of_ble_eq_true rfl) (Nat.le_of_ble_eq_true rfl) ?_
    rw [hpx]
    exact ⟨rfl, hno, hH⟩
  · skip
    obtain ⟨f_3, hf_3, rfl, rfl, hH⟩ := hp_1
    refine lv_aload_n hx hb dX6_isSealed_5 rfl (lv_at hl 0 rfl) ?_
    refine x_get C hH (ci := 7) (T := TX6) (N := 6) hX rfl iWX6 3 (by decide) qw_90 rfl rfl dX6_isSealed_6 ?_
    refine x_callV C hH hS (ci := 2) (t := (1, f_3, 0)) (hC f_3 (by omega)) rfl rfl (c_closed l (E := E) (base := base) (hC f_3 (by omega)) (h := nI nw)) hH kX1_isClosedIn qw_510 qw_511 qw_509  rfl [] rfl hl.1 (Nat.le_of_ble_eq_true rfl) ⟨Nat.le_of_ble_eq_true rfl, Nat.le_of_ble_eq_true rfl⟩ dX6_isSealed_9 ⟨Nat.le_of_ble_eq_true rfl, Nat.le_of_ble_eq_true rfl⟩ (fun r_5 H locs hp_4 hS => ?_)
    obtain ⟨rfl, hH⟩ := hp_4
    rw [← hQ]
    refine vx_ret (x_reti C ob_nar hS (Nat.le_of_ble_eq_true rfl) (Nat.le_of_ble_eq_true rfl) dX6_isSealed_12 ?_)
    rw [hpost]
    exact ⟨f_3, hf_3, rfl, rfl, hH⟩

set_option maxHeartbeats 4000000 in
set_option maxRecDepth 100000 in
theorem c_finds (l : Launch) (hfl : l.stackTraces = false) {E : xE} {base : Nat} {al : Tg → Nat} {w : Tg → Option va_E} {nf np na nw : Nat} {sg : Nat → Nat → Nat → Int32} {rc : Nat → Bool} (hR : RM E al w nf np na nw sg rc) (hI : INV nf np na nw sg rc) {x z : Int32} : xMetX l yX6_finds cX6_finds 6 (some (.int)) ({ frames := 7, cells := 2, slots := 12, locals := 103 } : Room) E base [.ref (al (0, 0, 0)), .int x, .int z] (fun H => xH E base al w H) (fun r H => ∃ p f, p < np ∧ f < nf ∧ x = nI p ∧ z = nI f ∧ r = some (.int (fBs (fun b => decide (red (KFs sg rc na p b) 16 (nI 1 <<< (nI f &&& 31)) = 0)) 8)) ∧ xH E base al w H) (fun X H => X = "java/lang/IndexOutOfBoundsException" ∧ ¬ (inR x np ∧ inR z nf) ∧ xH E base al w H) := by
  refine xMetX.of (by decide +kernel) "Dataroom" rfl (Nat.le_of_ble_eq_true rfl) ?_
  intro p9 e9 s m9 below meth c9 ls C het hP hS hl
  have hx := C.hx
  have hb := C.hb
  have hH := hP
  have hl : lv_has ls 6 [(0, .ref (al (0, 0, 0))), (1, .int x), (2, .int z)] := hl
  obtain ⟨post, hpost⟩ : ∃ zz9 : Option Value → Heap → Prop, zz9 = (fun r H => ∃ p f, p < np ∧ f < nf ∧ x = nI p ∧ z = nI f ∧ r = some (.int (fBs (fun b => decide (red (KFs sg rc na p b) 16 (nI 1 <<< (nI f &&& 31)) = 0)) 8)) ∧ xH E base al w H) := ⟨_, rfl⟩
  obtain ⟨px, hpx⟩ : ∃ zz9 : String → Heap → Prop, zz9 = (fun X H => X = "java/lang/IndexOutOfBoundsException" ∧ ¬ (inR x np ∧ inR z nf) ∧ xH E base al w H) := ⟨_, rfl⟩
  rw [← hpost, ← hpx]
  generalize hQ : (vx_MQ below (xQ base post) (xX base px) ([.ref (al (0, 0, 0)), .int x, .int z] : List Value).toArray s 2 12 (xA base)) = Q
  have hR0 := hR
  have hI0 := hI
  obtain ⟨hX, hF, hPl, hAl, hSh, hMk, hC, hPT, hAn⟩ := hR
  obtain ⟨mcF, aF, hLF⟩ := hF.sz
  obtain ⟨mcP, aP, hLP⟩ := hPl.sz
  obtain ⟨mcA, aA, hLA⟩ := hAl.sz
  obtain ⟨v16, v6, v150, vnow, vA, vS, vP, vK, vR⟩ := hI
  refine lv_aload_n hx hb dX6_finds_0 rfl (lv_at hl 0 rfl) ?_
  refine lv_iload_n hx hb dX6_finds_1 rfl (lv_at hl 1 rfl) ?_
  refine x_thrV C hH hS (ci := 7) (t := (0, 0, 0)) hX rfl rfl (c_pAt l hfl (E := E) (base := base) hR0 hI0 (x := x)) hH kX6_partyAt qw_420 (ws_p (List.mem_of_getElem? (i := 8) rfl) rfl) qw_418  rfl [] rfl hl.1 (Nat.le_of_ble_eq_true rfl) ⟨Nat.le_of_ble_eq_true rfl, Nat.le_of_ble_eq_true rfl⟩ dX6_finds_2 ⟨Nat.le_of_ble_eq_true rfl, Nat.le_of_ble_eq_true rfl⟩ (fun X ce q9 H locs hp_1 hS hce hcv hcl => ?_) (fun r_2 H locs hp_1 hS => ?_)
  · skip
    obtain ⟨rfl, hno, hH⟩ := hp_1
    rw [← hQ]
    refine x_outX C het hS hce hcv hcl (Nat.le_of_ble_eq_true rfl) (Nat.le_of_ble_eq_true rfl) ?_
    rw [hpx]
    exact ⟨rfl, fun q => hno q.1, hH⟩
  · skip
    obtain ⟨p_3, hp_3, rfl, rfl, hH⟩ := hp_1
    refine lv_astore_n (lv' := [(3, .ref (al (2, p_3, 0))), (0, .ref (al (0, 0, 0))), (1, .int (nI p_3)), (2, .int z)]) hx hb dX6_finds_5 rfl hl (by decide) rfl (fun ls hl => ?_)
    refine lv_aload_n hx hb dX6_finds_6 rfl (lv_at hl 1 rfl) ?_
    refine lv_iload_n hx hb dX6_finds_7 rfl (lv_at hl 3 rfl) ?_
    refine x_thrV C hH hS (ci := 7) (t := (0, 0, 0)) hX rfl rfl (c_rFile l hfl (E := E) (base := base) hR0 hI0 (x := z)) hH kX6_requireFile qw_304 (ws_p (List.mem_of_getElem? (i := 5) rfl) rfl) qw_302  rfl [] rfl hl.1 (Nat.le_of_ble_eq_true rfl) ⟨Nat.le_of_ble_eq_true rfl, Nat.le_of_ble_eq_true rfl⟩ dX6_finds_8 ⟨Nat.le_of_ble_eq_true rfl, Nat.le_of_ble_eq_true rfl⟩ (fun X ce q9 H locs hp_4 hS hce hcv hcl => ?_) (fun r_5 H locs hp_4 hS => ?_)
    · skip
      obtain ⟨rfl, hno, hH⟩ := hp_4
      rw [← hQ]
      refine x_outX C het hS hce hcv hcl (Nat.le_of_ble_eq_true rfl) (Nat.le_of_ble_eq_true rfl) ?_
      rw [hpx]
      exact ⟨rfl, fun q => hno q.2, hH⟩
    · skip
      obtain ⟨rfl, ⟨f_6, hf_6, rfl⟩, hH⟩ := hp_4
      refine lv_iconst (v := nI 0) hx hb dX6_finds_11 (by decide +kernel) ?_
      refine lv_istore (lv' := [(4, .int (nI 0)), (3, .ref (al (2, p_3, 0))), (0, .ref (al (0, 0, 0))), (1, .int (nI p_3)), (2, .int (nI f_6))]) hx hb dX6_finds_12 hl (by decide) rfl (fun ls hl => ?_)
      refine lv_iconst (v := nI 0) hx hb dX6_finds_14 (by decide +kernel) ?_
      refine lv_istore (lv' := [(5, .int (nI 0)), (4, .int (nI 0)), (3, .ref (al (2, p_3, 0))), (0, .ref (al (0, 0, 0))), (1, .int (nI p_3)), (2, .int (nI f_6))]) hx hb dX6_finds_15 hl (by decide) rfl (fun ls hl => ?_)
      have lp17 : ∀ (i : Nat), i ≤ 8 → ∀ (y : Int32) (H : Heap) (locs : List Loc) (ls : Array Slot), y = fBs (fun b => decide (red (KFs sg rc na p_3 b) 16 (nI 1 <<< (nI f_6 &&& 31)) = 0)) i → xH E base al w H → va_S (xA base) s.heap H locs → lv_has ls 6 [(5, .int (nI i)), (4, .int y), (3, .ref (al (2, p_3, 0))), (2, .int (nI f_6)), (1, .int (nI p_3)), (0, .ref (al (0, 0, 0)))] → W p9 l e9 ({ frames := 7, cells := 2, slots := 12, locals := 103 } : Room) s m9 ([.ref (al (0, 0, 0)), .int (nI p_3), .int (nI f_6)] : List Value).toArray below meth c9 H locs 2 12 Q (F0 m9 17 ls []) := by
        refine lp_up ?_
        intro i hii ih17 y H locs ls hy hH hS hl
        refine lv_iload hx hb dX6_finds_17 (lv_at hl 0 rfl) ?_
        refine lv_aload_n hx hb dX6_finds_19 rfl (lv_at hl 2 rfl) ?_
        refine x_getN C hH (ci := 5) (T := TX4) (N := 5) (hPT p_3 (by omega)).1 rfl iWX4 3 (by decide) nw_398 rfl rfl dX6_finds_20 ?_
        refine x_alen (v := nI 8) C hH 3 rfl (hPT p_3 (by omega)).2.2.1 rfl dX6_finds_23 ?_
        refine lv_icmp_ge (tgt := 58) hx hb dX6_finds_24 (by decide) (fun c_7 => ?_) (fun c_7 => ?_)
        · skip
          replace c_7 := (nI_leI (by omega) (by omega)).mp c_7
          refine lv_iload hx hb dX6_finds_58 (lv_at hl 1 rfl) ?_
          rw [← hQ]
          refine vx_ret (x_reti C rfl hS (Nat.le_of_ble_eq_true rfl) (Nat.le_of_ble_eq_true rfl) dX6_finds_60 ?_)
          rw [hpost]
          have e8 : i = 8 := by omega
          subst e8
          exact ⟨p_3, f_6, hp_3, hf_6, rfl, rfl, by rw [hy], hH⟩
        · skip
          replace c_7 := mt (nI_leI (by omega) (by omega)).mpr c_7
          refine lv_aload_n hx hb dX6_finds_27 rfl (lv_at hl 2 rfl) ?_
          refine x_getN C hH (ci := 5) (T := TX4) (N := 5) (hPT p_3 (by omega)).1 rfl iWX4 3 (by decide) nw_398 rfl rfl dX6_finds_28 ?_
          refine lv_iload hx hb dX6_finds_31 (lv_at hl 0 rfl) ?_
          refine x_aldq C hH 3 rfl (hPT p_3 (by omega)).2.2.1 (j := i) rfl (by omega) (by omega) (v := .ref (al (4, p_3, i))) (rfl) dX6_finds_33 ?_
          refine lv_iconst (v := nI 1) hx hb dX6_finds_34 (by decide +kernel) ?_
          refine lv_iload_n hx hb dX6_finds_35 rfl (lv_at hl 3 rfl) ?_
          refine lv_ishl hx hb dX6_finds_36 ?_
          refine x_callV C hH hS (ci := 3) (t := (4, p_3, i)) ((hPT p_3 (by omega)).2.2.2.2.2.1 i (by omega)) rfl rfl (c_knows l (E := E) (base := base) (x := (nI 1 <<< (nI f_6 &&& 31))) ((hPT p_3 (by omega)).2.2.2.2.2.1 i (by omega)) ((hPT p_3 (by omega)).2.2.2.2.2.2 i (by omega))) hH kX2_knows qw_527 qw_528 qw_607  rfl [] rfl hl.1 (Nat.le_of_ble_eq_true rfl) ⟨Nat.le_of_ble_eq_true rfl, Nat.le_of_ble_eq_true rfl⟩ dX6_finds_37 ⟨Nat.le_of_ble_eq_true rfl, Nat.le_of_ble_eq_true rfl⟩ (fun r_9 H locs hp_8 hS => ?_)
          obtain ⟨rfl, hH⟩ := hp_8
          refine lv_if_eq (tgt := 52) hx hb dX6_finds_40 (by decide) (fun c_10 => ?_) (fun c_10 => ?_)
          · skip
            replace c_10 := ob_0.mp c_10
            refine lv_iinc (v := nI (i + 1)) (lv' := [(5, .int (nI (i + 1))), (4, .int y), (3, .ref (al (2, p_3, 0))), (2, .int (nI f_6)), (1, .int (nI p_3)), (0, .ref (al (0, 0, 0)))]) hx hb dX6_finds_52 hl (k := 0) rfl (nI_1 _) (by decide) rfl (fun ls hl => ?_)
            refine lv_goto (tgt := 17) hx hb dX6_finds_55 (by decide) ?_
            exact ih17 (by omega) y _ _ _ (by rw [hy]; exact fBs_n (P := (fun b => decide (red (KFs sg rc na p_3 b) 16 (nI 1 <<< (nI f_6 &&& 31)) = 0))) c_10) hH hS (lv_sub hl [0, 1, 2, 3, 4, 5] rfl)
          · skip
            replace c_10 := ob_n.mp c_10
            refine lv_iload hx hb dX6_finds_43 (lv_at hl 1 rfl) ?_
            refine lv_iconst (v := nI 1) hx hb dX6_finds_45 (by decide +kernel) ?_
            refine lv_iload hx hb dX6_finds_46 (lv_at hl 0 rfl) ?_
            refine lv_ishl hx hb dX6_finds_48 ?_
            refine lv_ior hx hb dX6_finds_49 ?_
            refine lv_istore (lv' := [(4, .int (y ||| (nI 1 <<< (nI i &&& 31)))), (5, .int (nI i)), (3, .ref (al (2, p_3, 0))), (2, .int (nI f_6)), (1, .int (nI p_3)), (0, .ref (al (0, 0, 0)))]) hx hb dX6_finds_50 hl (by decide) rfl (fun ls hl => ?_)
            refine lv_iinc (v := nI (i + 1)) (lv' := [(5, .int (nI (i + 1))), (4, .int (y ||| (nI 1 <<< (nI i &&& 31)))), (3, .ref (al (2, p_3, 0))), (2, .int (nI f_6)), (1, .int (nI p_3)), (0, .ref (al (0, 0, 0)))]) hx hb dX6_finds_52 hl (k := 1) rfl (nI_1 _) (by decide) rfl (fun ls hl => ?_)
            refine lv_goto (tgt := 17) hx hb dX6_finds_55 (by decide) ?_
            exact ih17 (by omega) (y ||| (nI 1 <<< (nI i &&& 31))) _ _ _ (by rw [hy]; exact fBs_p (P := (fun b => decide (red (KFs sg rc na p_3 b) 16 (nI 1 <<< (nI f_6 &&& 31)) = 0))) c_10) hH hS (lv_sub hl [0, 1, 2, 3, 4, 5] rfl)
      exact lp17 0 (by omega) (nI 0) _ _ _ rfl hH hS (lv_sub hl [0, 1, 2, 5, 4, 3] rfl)

set_option maxHeartbeats 4000000 in
set_option maxRecDepth 100000 in
theorem c_cost (l : Launch) (hfl : l.stackTraces = false) {E : xE} {base : Nat} {al : Tg → Nat} {w : Tg → Option va_E} {nf np na nw : Nat} {sg : Nat → Nat → Nat → Int32} {rc : Nat → Bool} (hR : RM E al w nf np na nw sg rc) (hI : INV nf np na nw sg rc) {x z bit : Int32} : xMetX l yX6_cost cX6_cost 5 (some (.int)) ({ frames := 8, cells := 3, slots := 18, locals := 126 } : Room) E base [.ref (al (0, 0, 0)), .int x, .int z, .int bit] (fun H => xH E base al w H) (fun r H => ∃ p, p < np ∧ x = nI p ∧ Qok nf z bit ∧ r = some (.int (nI (cC (KFs sg rc na p) bit z 8))) ∧ xH E base al w H) (fun X H => ((X = "java/lang/IndexOutOfBoundsException" ∧ ¬ inR x np) ∨ (X = "java/lang/IllegalArgumentException" ∧ inR x np ∧ ¬ Qok nf z bit)) ∧ xH E base al w H) := by
  refine xMetX.of (by decide +kernel) "Dataroom" rfl (Nat.le_of_ble_eq_true rfl) ?_
  intro p9 e9 s m9 below meth c9 ls C het hP hS hl
  have hx := C.hx
  have hb := C.hb
  have hH := hP
  have hl : lv_has ls 5 [(0, .ref (al (0, 0, 0))), (1, .int x), (2, .int z), (3, .int bit)] := hl
  obtain ⟨post, hpost⟩ : ∃ zz9 : Option Value → Heap → Prop, zz9 = (fun r H => ∃ p, p < np ∧ x = nI p ∧ Qok nf z bit ∧ r = some (.int (nI (cC (KFs sg rc na p) bit z 8))) ∧ xH E base al w H) := ⟨_, rfl⟩
  obtain ⟨px, hpx⟩ : ∃ zz9 : String → Heap → Prop, zz9 = (fun X H => ((X = "java/lang/IndexOutOfBoundsException" ∧ ¬ inR x np) ∨ (X = "java/lang/IllegalArgumentException" ∧ inR x np ∧ ¬ Qok nf z bit)) ∧ xH E base al w H) := ⟨_, rfl⟩
  rw [← hpost, ← hpx]
  generalize hQ : (vx_MQ below (xQ base post) (xX base px) ([.ref (al (0, 0, 0)), .int x, .int z, .int bit] : List Value).toArray s 3 18 (xA base)) = Q
  have hR0 := hR
  have hI0 := hI
  obtain ⟨hX, hF, hPl, hAl, hSh, hMk, hC, hPT, hAn⟩ := hR
  obtain ⟨mcF, aF, hLF⟩ := hF.sz
  obtain ⟨mcP, aP, hLP⟩ := hPl.sz
  obtain ⟨mcA, aA, hLA⟩ := hAl.sz
  obtain ⟨v16, v6, v150, vnow, vA, vS, vP, vK, vR⟩ := hI
  refine lv_aload_n hx hb dX6_cost_0 rfl (lv_at hl 0 rfl) ?_
  refine lv_iload_n hx hb dX6_cost_1 rfl (lv_at hl 1 rfl) ?_
  refine x_thrV C hH hS (ci := 7) (t := (0, 0, 0)) hX rfl rfl (c_pAt l hfl (E := E) (base := base) hR0 hI0 (x := x)) hH kX6_partyAt qw_420 (ws_p (List.mem_of_getElem? (i := 8) rfl) rfl) qw_418  rfl [] rfl hl.1 (Nat.le_of_ble_eq_true rfl) ⟨Nat.le_of_ble_eq_true rfl, Nat.le_of_ble_eq_true rfl⟩ dX6_cost_2 ⟨Nat.le_of_ble_eq_true rfl, Nat.le_of_ble_eq_true rfl⟩ (fun X ce q9 H locs hp_1 hS hce hcv hcl => ?_) (fun r_2 H locs hp_1 hS => ?_)
  · skip
    obtain ⟨rfl, hno, hH⟩ := hp_1
    rw [← hQ]
    refine x_outX C het hS hce hcv hcl (Nat.le_of_ble_eq_true rfl) (Nat.le_of_ble_eq_true rfl) ?_
    rw [hpx]
    exact ⟨Or.inl ⟨rfl, hno⟩, hH⟩
  · skip
    obtain ⟨p_3, hp_3, rfl, rfl, hH⟩ := hp_1
    refine lv_astore (lv' := [(4, .ref (al (2, p_3, 0))), (0, .ref (al (0, 0, 0))), (1, .int (nI p_3)), (2, .int z), (3, .int bit)]) hx hb dX6_cost_5 hl (by decide) rfl (fun ls hl => ?_)
    refine lv_aload_n hx hb dX6_cost_7 rfl (lv_at hl 1 rfl) ?_
    refine lv_iload_n hx hb dX6_cost_8 rfl (lv_at hl 3 rfl) ?_
    refine lv_iload_n hx hb dX6_cost_9 rfl (lv_at hl 4 rfl) ?_
    refine x_thrV C hH hS (ci := 7) (t := (0, 0, 0)) hX rfl rfl (c_rQ l hfl (E := E) (base := base) hR0 hI0 (x := z) (bit := bit)) hH kX6_requireQuestion qw_485 (ws_p (List.mem_of_getElem? (i := 9) rfl) rfl) qw_483  rfl [] rfl hl.1 (Nat.le_of_ble_eq_true rfl) ⟨Nat.le_of_ble_eq_true rfl, Nat.le_of_ble_eq_true rfl⟩ dX6_cost_10 ⟨Nat.le_of_ble_eq_true rfl, Nat.le_of_ble_eq_true rfl⟩ (fun X ce q9 H locs hp_4 hS hce hcv hcl => ?_) (fun r_5 H locs hp_4 hS => ?_)
    · skip
      obtain ⟨rfl, hno, hH⟩ := hp_4
      rw [← hQ]
      refine x_outX C het hS hce hcv hcl (Nat.le_of_ble_eq_true rfl) (Nat.le_of_ble_eq_true rfl) ?_
      rw [hpx]
      exact ⟨Or.inr ⟨rfl, ⟨p_3, hp_3, rfl⟩, hno⟩, hH⟩
    · skip
      obtain ⟨rfl, hQk, hH⟩ := hp_4
      refine lv_aload hx hb dX6_cost_13 (lv_at hl 0 rfl) ?_
      refine lv_iload_n hx hb dX6_cost_15 rfl (lv_at hl 3 rfl) ?_
      refine lv_iload_n hx hb dX6_cost_16 rfl (lv_at hl 4 rfl) ?_
      refine x_callV C hH hS (ci := 5) (t := (2, p_3, 0)) (hPT p_3 (by omega)).1 rfl rfl (c_costOf l (E := E) (base := base) (hPT p_3 (by omega)) (x := z) (bit := bit)) hH kX4_costOf qw_535 qw_536 qw_534  rfl [] rfl hl.1 (Nat.le_of_ble_eq_true rfl) ⟨Nat.le_of_ble_eq_true rfl, Nat.le_of_ble_eq_true rfl⟩ dX6_cost_17 ⟨Nat.le_of_ble_eq_true rfl, Nat.le_of_ble_eq_true rfl⟩ (fun r_7 H locs hp_6 hS => ?_)
      obtain ⟨rfl, hH⟩ := hp_6
      rw [← hQ]
      refine vx_ret (x_reti C rfl hS (Nat.le_of_ble_eq_true rfl) (Nat.le_of_ble_eq_true rfl) dX6_cost_20 ?_)
      rw [hpost]
      exact ⟨p_3, hp_3, rfl, hQk, rfl, hH⟩
