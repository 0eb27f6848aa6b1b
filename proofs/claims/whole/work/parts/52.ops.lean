def SI (E : xE) (base A0 A1 A2 : Nat) (H : Heap) : Prop :=
  ∃ (al : Tg → Nat) (w : Tg → Option va_E) (nf np na nw : Nat) (sg : Nat → Nat → Nat → Int32) (rc : Nat → Bool) (th : Int32) (fr : Nat → Int32) (fo : Nat → Int64), xH E base al w H ∧ RM E al w nf np na nw sg rc ∧ INV nf np na nw sg rc ∧ MMf E al w th nf np na nw sg rc fr ∧ w (20, 0, 0) = some (.inl (E.2.1 1, 1, .inr (.inl fo))) ∧ al (0, 0, 0) = A0 ∧ al (10, 0, 0) = A1 ∧ al (20, 0, 0) = A2
set_option maxHeartbeats 4000000 in
set_option maxRecDepth 100000 in
theorem op_seal (l : Launch) (hfl : l.stackTraces = false) {p : Program} {e : Env} {s : State} {m : MethodId} {below : List Frame} {meth : Method} {c : Code} {ret9 : Option FieldType} {E : xE} {base b L : Nat} {xs : Nat → Int32} {Q : State → Prop} (C : XC p s m #[Value.ref b] meth c "DataroomLaw" cL_law 7 ret9 E base) (hXs : va_X b L xs s s.heap) (hbl : b < s.heap.size) (hbA : ¬ xA base b) {cells slots i : Nat} (hcs : cells + 30 ≤ 601024) (hss : slots + 700 ≤ 7293034) (hi : i + 6 ≤ L) (hL : L ≤ 3072)
    {al : Tg → Nat} {w : Tg → Option va_E} {nf np na nw : Nat} {sg : Nat → Nat → Nat → Int32} {rc : Nat → Bool} {th : Int32} {fr : Nat → Int32} {fo : Nat → Int64} (hR : RM E al w nf np na nw sg rc) (hI : INV nf np na nw sg rc) (hMM : MMf E al w th nf np na nw sg rc fr) (hO : w (20, 0, 0) = some (.inl (E.2.1 1, 1, .inr (.inl fo)))) {H : Heap} {locs : List Loc} {ls : Array Slot} (hH : xH E base al w H) (hS : va_S (xA base) s.heap H locs) (hl : lv_has ls 7 [(4, .int (nI i)), (3, .ref (al (20, 0, 0))), (2, .ref (al (10, 0, 0))), (1, .ref (al (0, 0, 0))), (0, .ref b)])
    (kk : ∀ (H : Heap) (locs : List Loc) (ls : Array Slot), SI E base (al (0, 0, 0)) (al (10, 0, 0)) (al (20, 0, 0)) H → va_S (xA base) s.heap H locs → lv_has ls 7 [(4, .int (nI i)), (3, .ref (al (20, 0, 0))), (2, .ref (al (10, 0, 0))), (1, .ref (al (0, 0, 0))), (0, .ref b)] → W p l e room_1 s m #[Value.ref b] below meth c H locs (cells + 30) (slots + 700) Q (F0 m 1307 ls [])) : W p l e room_1 s m #[Value.ref b] below meth c H locs cells slots Q (F0 m 528 ls []) := by
  have hx := C.hx
  have hb := C.hb
  refine lv_aload_n hx hb dL_law_528 rfl (lv_at hl 3 rfl) ?_
  refine lv_aload_n hx hb dL_law_529 rfl (lv_at hl 4 rfl) ?_
  refine lv_iload hx hb dL_law_530 (lv_at hl 0 rfl) ?_
  refine lv_iconst (v := nI 1) hx hb dL_law_532 (by decide +kernel) ?_
  refine lv_iadd hx hb dL_law_533 ?_
  refine lv_re (nI_add _ _) ?_
  refine va_sld C.hx C.hb hXs hbl hbA hS (vp_in_nI (by omega : i + 1 < L) (by omega)) dL_law_534 ?_
  rw [nI_clamp (by omega)]
  obtain ⟨x1, hx1⟩ : ∃ z9, z9 = xs (i + 1) := ⟨_, rfl⟩
  rw [← hx1]
  refine lv_aload_n hx hb dL_law_535 rfl (lv_at hl 4 rfl) ?_
  refine lv_iload hx hb dL_law_536 (lv_at hl 0 rfl) ?_
  refine lv_iconst (v := nI 2) hx hb dL_law_538 (by decide +kernel) ?_
  refine lv_iadd hx hb dL_law_539 ?_
  refine lv_re (nI_add _ _) ?_
  refine va_sld C.hx C.hb hXs hbl hbA hS (vp_in_nI (by omega : i + 2 < L) (by omega)) dL_law_540 ?_
  rw [nI_clamp (by omega)]
  obtain ⟨x2, hx2⟩ : ∃ z9, z9 = xs (i + 2) := ⟨_, rfl⟩
  rw [← hx2]
  refine x_callH (k := 3) C hS (l_seal l hfl (E := E) (base := base) hR hI (x := x1) (y := x2)) hH qw_454 qw_0 ⟨by decide +kernel, by decide +kernel, by decide +kernel⟩ qw_453 qw_452 rfl [] rfl hl.1 (Nat.le_of_ble_eq_true rfl) ⟨(Nat.le_of_ble_eq_true rfl), (Nat.le_of_ble_eq_true rfl)⟩ dL_law_541 ⟨by show cells + 2 ≤ 601024; omega, by show slots + 12 ≤ 7293034; omega⟩ (fun r H locs hp hS => ?_)
  rcases hp with ⟨rfl, c1, hH⟩ | ⟨rfl, c1, c2, hH⟩ | ⟨rfl, f, hf, rfl, c2, hP⟩
  · skip
    obtain ⟨al9, hal9⟩ : ∃ z : Tg → Nat, z = al := ⟨_, rfl⟩
    have hfa : ∀ t : Tg, 10 ≤ t.1 → al9 t = al t := fun t _ => by rw [hal9]
    have h09 : al9 (0, 0, 0) = al (0, 0, 0) := by rw [hal9]
    have hR9 := hR
    have hM9 := hMM
    have hO8 := hO
    rw [← hal9] at hH hR9 hM9
    have a10 := (hfa (10, 0, 0) (by decide)).symm
    have a20 := (hfa (20, 0, 0) (by decide)).symm
    refine lv_istore (lv' := [(5, .int (nI 1)), (4, .int (nI i)), (3, .ref (al (20, 0, 0))), (2, .ref (al (10, 0, 0))), (1, .ref (al (0, 0, 0))), (0, .ref b)]) hx hb dL_law_544 hl (by decide) rfl (fun ls hl => ?_)
    refine lv_aload_n hx hb dL_law_546 rfl (lv_at hl 3 rfl) ?_
    refine lv_aload_n hx hb dL_law_547 rfl (lv_at hl 5 rfl) ?_
    refine lv_iload hx hb dL_law_548 (lv_at hl 1 rfl) ?_
    refine lv_iconst (v := nI 1) hx hb dL_law_550 (by decide +kernel) ?_
    refine lv_iadd hx hb dL_law_551 ?_
    refine lv_re (nI_add _ _) ?_
    refine va_sld C.hx C.hb hXs hbl hbA hS (vp_in_nI (by omega : i + 1 < L) (by omega)) dL_law_552 ?_
    rw [nI_clamp (by omega)]
    rw [← hx1]
    refine lv_aload_n hx hb dL_law_553 rfl (lv_at hl 5 rfl) ?_
    refine lv_iload hx hb dL_law_554 (lv_at hl 1 rfl) ?_
    refine lv_iconst (v := nI 2) hx hb dL_law_556 (by decide +kernel) ?_
    refine lv_iadd hx hb dL_law_557 ?_
    refine lv_re (nI_add _ _) ?_
    refine va_sld C.hx C.hb hXs hbl hbA hS (vp_in_nI (by omega : i + 2 < L) (by omega)) dL_law_558 ?_
    rw [nI_clamp (by omega)]
    rw [← hx2]
    refine lv_adr3 a10 ?_
    refine x_callV C hH hS (ci := 8) (t := (10, 0, 0)) hM9.1 rfl rfl (m_seal l (E := E) (base := base) hM9 hI (x := x1) (y := x2)) hH kX7_seal qw_803 qw_804 qw_802 rfl [] rfl hl.1 (Nat.le_of_ble_eq_true rfl) ⟨(Nat.le_of_ble_eq_true rfl), (Nat.le_of_ble_eq_true rfl)⟩ dL_law_559 ⟨by show cells + 2 + 0 ≤ 601024; omega, by show slots + 12 + 0 ≤ 7293034; omega⟩ (fun r H locs hp hS => ?_)
    obtain ⟨rfl, hp⟩ := hp
    rcases hp with ⟨g1, hP8⟩ | ⟨g1, g2, hP8⟩ | ⟨f8, hf8, e8, g2, hr8, hP8⟩
    · skip
      obtain ⟨w8, fr8, hH, hM8, hf8⟩ := hP8
      have hR8 := hR9.of (fun t ht => hf8 t (by unfold dm at ht; omega)) (fun _ _ => rfl)
      replace hO8 := (hf8 (20, 0, 0) (by decide)).trans hO8
      refine lv_aload_n hx hb dL_law_562 rfl (lv_at hl 3 rfl) ?_
      refine lv_adr a10 ?_
      refine x_callV C hH hS (ci := 8) (t := (10, 0, 0)) hM8.1 rfl rfl (m_thrown l (E := E) (base := base) hM8 ) hH kX7_thrown qw_756 qw_757 qw_755 rfl [] rfl hl.1 (Nat.le_of_ble_eq_true rfl) ⟨(Nat.le_of_ble_eq_true rfl), (Nat.le_of_ble_eq_true rfl)⟩ dL_law_563 ⟨by show cells + 2 + 0 ≤ 601024; omega, by show slots + 12 + 0 ≤ 7293034; omega⟩ (fun r H locs hp hS => ?_)
      obtain ⟨rfl, hH⟩ := hp
      refine lv_iload hx hb dL_law_566 (lv_at hl 0 rfl) ?_
      refine lv_icmp_eq (tgt := 573) hx hb dL_law_568 (by decide) (fun c_1 => ?_) (fun c_1 => absurd (by decide +kernel) c_1)
      clear c_1
      refine lv_goto (tgt := 1307) hx hb dL_law_573 (by decide) ?_
      refine W.widen (k := cells + 30) (n := slots + 700) (by show cells + 2 + 0 + 0 ≤ _; omega) (by show slots + 12 + 0 + 0 ≤ _; omega) ?_
      exact kk _ _ _ ⟨al9, w8, _, _, _, _, _, _, _, fr8, _, hH, hR8, hI, hM8, hO8, h09, a10.symm, a20.symm⟩ hS (lv_sub hl [1, 2, 3, 4, 5] rfl)
    · skip
      exfalso; first | exact c1 g1 | exact g1 c1 | exact c2 g2 | exact g2 c2 | exact c3 g3 | exact g3 c3 | (have q9 := (nI_eq (by have := hI.1; have := hI.2.1; have := hI.2.2.1; omega) (by have := hI.1; have := hI.2.1; have := hI.2.2.1; omega)).mp e8; subst q9; first | exact c4 g4 | exact g4 c4)
    · skip
      have g1 : inR _ nf := ⟨f8, hf8, e8⟩
      exfalso; first | exact c1 g1 | exact g1 c1 | exact c2 g2 | exact g2 c2 | exact c3 g3 | exact g3 c3 | (have q9 := (nI_eq (by have := hI.1; have := hI.2.1; have := hI.2.2.1; omega) (by have := hI.1; have := hI.2.1; have := hI.2.2.1; omega)).mp e8; subst q9; first | exact c4 g4 | exact g4 c4)
  · skip
    obtain ⟨al9, hal9⟩ : ∃ z : Tg → Nat, z = al := ⟨_, rfl⟩
    have hfa : ∀ t : Tg, 10 ≤ t.1 → al9 t = al t := fun t _ => by rw [hal9]
    have h09 : al9 (0, 0, 0) = al (0, 0, 0) := by rw [hal9]
    have hR9 := hR
    have hM9 := hMM
    have hO8 := hO
    rw [← hal9] at hH hR9 hM9
    have a10 := (hfa (10, 0, 0) (by decide)).symm
    have a20 := (hfa (20, 0, 0) (by decide)).symm
    refine lv_istore (lv' := [(5, .int (nI 2)), (4, .int (nI i)), (3, .ref (al (20, 0, 0))), (2, .ref (al (10, 0, 0))), (1, .ref (al (0, 0, 0))), (0, .ref b)]) hx hb dL_law_544 hl (by decide) rfl (fun ls hl => ?_)
    refine lv_aload_n hx hb dL_law_546 rfl (lv_at hl 3 rfl) ?_
    refine lv_aload_n hx hb dL_law_547 rfl (lv_at hl 5 rfl) ?_
    refine lv_iload hx hb dL_law_548 (lv_at hl 1 rfl) ?_
    refine lv_iconst (v := nI 1) hx hb dL_law_550 (by decide +kernel) ?_
    refine lv_iadd hx hb dL_law_551 ?_
    refine lv_re (nI_add _ _) ?_
    refine va_sld C.hx C.hb hXs hbl hbA hS (vp_in_nI (by omega : i + 1 < L) (by omega)) dL_law_552 ?_
    rw [nI_clamp (by omega)]
    rw [← hx1]
    refine lv_aload_n hx hb dL_law_553 rfl (lv_at hl 5 rfl) ?_
    refine lv_iload hx hb dL_law_554 (lv_at hl 1 rfl) ?_
    refine lv_iconst (v := nI 2) hx hb dL_law_556 (by decide +kernel) ?_
    refine lv_iadd hx hb dL_law_557 ?_
    refine lv_re (nI_add _ _) ?_
    refine va_sld C.hx C.hb hXs hbl hbA hS (vp_in_nI (by omega : i + 2 < L) (by omega)) dL_law_558 ?_
    rw [nI_clamp (by omega)]
    rw [← hx2]
    refine lv_adr3 a10 ?_
    refine x_callV C hH hS (ci := 8) (t := (10, 0, 0)) hM9.1 rfl rfl (m_seal l (E := E) (base := base) hM9 hI (x := x1) (y := x2)) hH kX7_seal qw_803 qw_804 qw_802 rfl [] rfl hl.1 (Nat.le_of_ble_eq_true rfl) ⟨(Nat.le_of_ble_eq_true rfl), (Nat.le_of_ble_eq_true rfl)⟩ dL_law_559 ⟨by show cells + 2 + 0 ≤ 601024; omega, by show slots + 12 + 0 ≤ 7293034; omega⟩ (fun r H locs hp hS => ?_)
    obtain ⟨rfl, hp⟩ := hp
    rcases hp with ⟨g1, hP8⟩ | ⟨g1, g2, hP8⟩ | ⟨f8, hf8, e8, g2, hr8, hP8⟩
    · skip
      exfalso; first | exact c1 g1 | exact g1 c1 | exact c2 g2 | exact g2 c2 | exact c3 g3 | exact g3 c3 | (have q9 := (nI_eq (by have := hI.1; have := hI.2.1; have := hI.2.2.1; omega) (by have := hI.1; have := hI.2.1; have := hI.2.2.1; omega)).mp e8; subst q9; first | exact c4 g4 | exact g4 c4)
    · skip
      obtain ⟨w8, fr8, hH, hM8, hf8⟩ := hP8
      have hR8 := hR9.of (fun t ht => hf8 t (by unfold dm at ht; omega)) (fun _ _ => rfl)
      replace hO8 := (hf8 (20, 0, 0) (by decide)).trans hO8
      refine lv_aload_n hx hb dL_law_562 rfl (lv_at hl 3 rfl) ?_
      refine lv_adr a10 ?_
      refine x_callV C hH hS (ci := 8) (t := (10, 0, 0)) hM8.1 rfl rfl (m_thrown l (E := E) (base := base) hM8 ) hH kX7_thrown qw_756 qw_757 qw_755 rfl [] rfl hl.1 (Nat.le_of_ble_eq_true rfl) ⟨(Nat.le_of_ble_eq_true rfl), (Nat.le_of_ble_eq_true rfl)⟩ dL_law_563 ⟨by show cells + 2 + 0 ≤ 601024; omega, by show slots + 12 + 0 ≤ 7293034; omega⟩ (fun r H locs hp hS => ?_)
      obtain ⟨rfl, hH⟩ := hp
      refine lv_iload hx hb dL_law_566 (lv_at hl 0 rfl) ?_
      refine lv_icmp_eq (tgt := 573) hx hb dL_law_568 (by decide) (fun c_2 => ?_) (fun c_2 => absurd (by decide +kernel) c_2)
      clear c_2
      refine lv_goto (tgt := 1307) hx hb dL_law_573 (by decide) ?_
      refine W.widen (k := cells + 30) (n := slots + 700) (by show cells + 2 + 0 + 0 ≤ _; omega) (by show slots + 12 + 0 + 0 ≤ _; omega) ?_
      exact kk _ _ _ ⟨al9, w8, _, _, _, _, _, _, _, fr8, _, hH, hR8, hI, hM8, hO8, h09, a10.symm, a20.symm⟩ hS (lv_sub hl [1, 2, 3, 4, 5] rfl)
    · skip
      have g1 : inR _ nf := ⟨f8, hf8, e8⟩
      exfalso; first | exact c1 g1 | exact g1 c1 | exact c2 g2 | exact g2 c2 | exact c3 g3 | exact g3 c3 | (have q9 := (nI_eq (by have := hI.1; have := hI.2.1; have := hI.2.2.1; omega) (by have := hI.1; have := hI.2.1; have := hI.2.2.1; omega)).mp e8; subst q9; first | exact c4 g4 | exact g4 c4)
  · skip
    have c1 : inR (nI f) nf := ⟨f, hf, rfl⟩
    obtain ⟨al9, w9, hH, hR9, hf9, h09⟩ := hP
    have hO8 : w9 (20, 0, 0) = _ := (hf9 (20, 0, 0) (by decide)).1.trans hO
    have hfa : ∀ t : Tg, 10 ≤ t.1 → al9 t = al t := fun t ht => (hf9 t ht).2
    have hM9 := hMM.mv (fun t ht => (hf9 t (by omega)).1) (fun t ht => hfa t (by omega))
    have a10 := (hfa (10, 0, 0) (by decide)).symm
    have a20 := (hfa (20, 0, 0) (by decide)).symm
    refine lv_istore (lv' := [(5, .int (nI 0)), (4, .int (nI i)), (3, .ref (al (20, 0, 0))), (2, .ref (al (10, 0, 0))), (1, .ref (al (0, 0, 0))), (0, .ref b)]) hx hb dL_law_544 hl (by decide) rfl (fun ls hl => ?_)
    refine lv_aload_n hx hb dL_law_546 rfl (lv_at hl 3 rfl) ?_
    refine lv_aload_n hx hb dL_law_547 rfl (lv_at hl 5 rfl) ?_
    refine lv_iload hx hb dL_law_548 (lv_at hl 1 rfl) ?_
    refine lv_iconst (v := nI 1) hx hb dL_law_550 (by decide +kernel) ?_
    refine lv_iadd hx hb dL_law_551 ?_
    refine lv_re (nI_add _ _) ?_
    refine va_sld C.hx C.hb hXs hbl hbA hS (vp_in_nI (by omega : i + 1 < L) (by omega)) dL_law_552 ?_
    rw [nI_clamp (by omega)]
    rw [← hx1]
    refine lv_aload_n hx hb dL_law_553 rfl (lv_at hl 5 rfl) ?_
    refine lv_iload hx hb dL_law_554 (lv_at hl 1 rfl) ?_
    refine lv_iconst (v := nI 2) hx hb dL_law_556 (by decide +kernel) ?_
    refine lv_iadd hx hb dL_law_557 ?_
    refine lv_re (nI_add _ _) ?_
    refine va_sld C.hx C.hb hXs hbl hbA hS (vp_in_nI (by omega : i + 2 < L) (by omega)) dL_law_558 ?_
    rw [nI_clamp (by omega)]
    rw [← hx2]
    refine lv_adr3 a10 ?_
    refine x_callV C hH hS (ci := 8) (t := (10, 0, 0)) hM9.1 rfl rfl (m_seal l (E := E) (base := base) hM9 hI (x := nI f) (y := x2)) hH kX7_seal qw_803 qw_804 qw_802 rfl [] rfl hl.1 (Nat.le_of_ble_eq_true rfl) ⟨(Nat.le_of_ble_eq_true rfl), (Nat.le_of_ble_eq_true rfl)⟩ dL_law_559 ⟨by show cells + 2 + 0 ≤ 601024; omega, by show slots + 12 + 0 ≤ 7293034; omega⟩ (fun r H locs hp hS => ?_)
    obtain ⟨rfl, hp⟩ := hp
    rcases hp with ⟨g1, hP8⟩ | ⟨g1, g2, hP8⟩ | ⟨f8, hf8, e8, g2, hr8, hP8⟩
    · skip
      exfalso; first | exact c1 g1 | exact g1 c1 | exact c2 g2 | exact g2 c2 | exact c3 g3 | exact g3 c3 | (have q9 := (nI_eq (by have := hI.1; have := hI.2.1; have := hI.2.2.1; omega) (by have := hI.1; have := hI.2.1; have := hI.2.2.1; omega)).mp e8; subst q9; first | exact c4 g4 | exact g4 c4)
    · skip
      exfalso; first | exact c1 g1 | exact g1 c1 | exact c2 g2 | exact g2 c2 | exact c3 g3 | exact g3 c3 | (have q9 := (nI_eq (by have := hI.1; have := hI.2.1; have := hI.2.2.1; omega) (by have := hI.1; have := hI.2.1; have := hI.2.2.1; omega)).mp e8; subst q9; first | exact c4 g4 | exact g4 c4)
    · skip
      have g1 : inR _ nf := ⟨f8, hf8, e8⟩
      have q9 := (nI_eq (by have := hI.1; omega) (by have := hI.1; omega)).mp e8
      subst q9
      obtain ⟨w8, fr8, hH, hM8, hf8⟩ := hP8
      have hR8 := hR9.of (fun t ht => hf8 t (by unfold dm at ht; omega)) (fun _ _ => rfl)
      replace hO8 := (hf8 (20, 0, 0) (by decide)).trans hO8
      refine lv_aload_n hx hb dL_law_562 rfl (lv_at hl 3 rfl) ?_
      refine lv_adr a10 ?_
      refine x_callV C hH hS (ci := 8) (t := (10, 0, 0)) hM8.1 rfl rfl (m_thrown l (E := E) (base := base) hM8 ) hH kX7_thrown qw_756 qw_757 qw_755 rfl [] rfl hl.1 (Nat.le_of_ble_eq_true rfl) ⟨(Nat.le_of_ble_eq_true rfl), (Nat.le_of_ble_eq_true rfl)⟩ dL_law_563 ⟨by show cells + 2 + 0 ≤ 601024; omega, by show slots + 12 + 0 ≤ 7293034; omega⟩ (fun r H locs hp hS => ?_)
      obtain ⟨rfl, hH⟩ := hp
      refine lv_iload hx hb dL_law_566 (lv_at hl 0 rfl) ?_
      refine lv_icmp_eq (tgt := 573) hx hb dL_law_568 (by decide) (fun c_3 => ?_) (fun c_3 => absurd (by decide +kernel) c_3)
      clear c_3
      refine lv_goto (tgt := 1307) hx hb dL_law_573 (by decide) ?_
      refine W.widen (k := cells + 30) (n := slots + 700) (by show cells + 2 + 0 + 0 ≤ _; omega) (by show slots + 12 + 0 + 0 ≤ _; omega) ?_
      exact kk _ _ _ ⟨al9, w8, _, _, _, _, _, _, _, fr8, _, hH, hR8, INV_seal hI hf, hM8, hO8, h09, a10.symm, a20.symm⟩ hS (lv_sub hl [1, 2, 3, 4, 5] rfl)

set_option maxHeartbeats 4000000 in
set_option maxRecDepth 100000 in
theorem op_budget (l : Launch) (hfl : l.stackTraces = false) {p : Program} {e : Env} {s : State} {m : MethodId} {below : List Frame} {meth : Method} {c : Code} {ret9 : Option FieldType} {E : xE} {base b L : Nat} {xs : Nat → Int32} {Q : State → Prop} (C : XC p s m #[Value.ref b] meth c "DataroomLaw" cL_law 7 ret9 E base) (hXs : va_X b L xs s s.heap) (hbl : b < s.heap.size) (hbA : ¬ xA base b) {cells slots i : Nat} (hcs : cells + 30 ≤ 601024) (hss : slots + 700 ≤ 7293034) (hi : i + 6 ≤ L) (hL : L ≤ 3072)
    {al : Tg → Nat} {w : Tg → Option va_E} {nf np na nw : Nat} {sg : Nat → Nat → Nat → Int32} {rc : Nat → Bool} {th : Int32} {fr : Nat → Int32} {fo : Nat → Int64} (hR : RM E al w nf np na nw sg rc) (hI : INV nf np na nw sg rc) (hMM : MMf E al w th nf np na nw sg rc fr) (hO : w (20, 0, 0) = some (.inl (E.2.1 1, 1, .inr (.inl fo)))) {H : Heap} {locs : List Loc} {ls : Array Slot} (hH : xH E base al w H) (hS : va_S (xA base) s.heap H locs) (hl : lv_has ls 7 [(4, .int (nI i)), (3, .ref (al (20, 0, 0))), (2, .ref (al (10, 0, 0))), (1, .ref (al (0, 0, 0))), (0, .ref b)])
    (kk : ∀ (H : Heap) (locs : List Loc) (ls : Array Slot), SI E base (al (0, 0, 0)) (al (10, 0, 0)) (al (20, 0, 0)) H → va_S (xA base) s.heap H locs → lv_has ls 7 [(4, .int (nI i)), (3, .ref (al (20, 0, 0))), (2, .ref (al (10, 0, 0))), (1, .ref (al (0, 0, 0))), (0, .ref b)] → W p l e room_1 s m #[Value.ref b] below meth c H locs (cells + 30) (slots + 700) Q (F0 m 1307 ls [])) : W p l e room_1 s m #[Value.ref b] below meth c H locs cells slots Q (F0 m 308 ls []) := by
  have hx := C.hx
  have hb := C.hb
  refine lv_aload_n hx hb dL_law_308 rfl (lv_at hl 3 rfl) ?_
  refine lv_aload_n hx hb dL_law_309 rfl (lv_at hl 4 rfl) ?_
  refine lv_iload hx hb dL_law_310 (lv_at hl 0 rfl) ?_
  refine lv_iconst (v := nI 1) hx hb dL_law_312 (by decide +kernel) ?_
  refine lv_iadd hx hb dL_law_313 ?_
  refine lv_re (nI_add _ _) ?_
  refine va_sld C.hx C.hb hXs hbl hbA hS (vp_in_nI (by omega : i + 1 < L) (by omega)) dL_law_314 ?_
  rw [nI_clamp (by omega)]
  obtain ⟨x1, hx1⟩ : ∃ z9, z9 = xs (i + 1) := ⟨_, rfl⟩
  rw [← hx1]
  refine lv_aload_n hx hb dL_law_315 rfl (lv_at hl 4 rfl) ?_
  refine lv_iload hx hb dL_law_316 (lv_at hl 0 rfl) ?_
  refine lv_iconst (v := nI 2) hx hb dL_law_318 (by decide +kernel) ?_
  refine lv_iadd hx hb dL_law_319 ?_
  refine lv_re (nI_add _ _) ?_
  refine va_sld C.hx C.hb hXs hbl hbA hS (vp_in_nI (by omega : i + 2 < L) (by omega)) dL_law_320 ?_
  rw [nI_clamp (by omega)]
  obtain ⟨x2, hx2⟩ : ∃ z9, z9 = xs (i + 2) := ⟨_, rfl⟩
  rw [← hx2]
  refine lv_aload_n hx hb dL_law_321 rfl (lv_at hl 1 rfl) ?_
  refine x_callH (k := 4) C hS (l_budget l hfl (E := E) (base := base) hR hI hO (x := x1) (y := x2)) hH qw_404 qw_0 ⟨by decide +kernel, by decide +kernel, by decide +kernel⟩ qw_403 qw_402 rfl [] rfl hl.1 (Nat.le_of_ble_eq_true rfl) ⟨(Nat.le_of_ble_eq_true rfl), (Nat.le_of_ble_eq_true rfl)⟩ dL_law_322 ⟨by show cells + 2 ≤ 601024; omega, by show slots + 12 ≤ 7293034; omega⟩ (fun r H locs hp hS => ?_)
  rcases hp with ⟨rfl, c1, hH⟩ | ⟨rfl, c1, c2, hH⟩ | ⟨rfl, pp, hpp, rfl, c2, hP⟩
  · skip
    obtain ⟨al9, hal9⟩ : ∃ z : Tg → Nat, z = al := ⟨_, rfl⟩
    have hfa : ∀ t : Tg, 10 ≤ t.1 → al9 t = al t := fun t _ => by rw [hal9]
    have h09 : al9 (0, 0, 0) = al (0, 0, 0) := by rw [hal9]
    have hR9 := hR
    have hM9 := hMM
    have hO8 := hO
    rw [← hal9] at hH hR9 hM9
    have a10 := (hfa (10, 0, 0) (by decide)).symm
    have a20 := (hfa (20, 0, 0) (by decide)).symm
    refine lv_istore (lv' := [(5, .int (nI 1)), (4, .int (nI i)), (3, .ref (al (20, 0, 0))), (2, .ref (al (10, 0, 0))), (1, .ref (al (0, 0, 0))), (0, .ref b)]) hx hb dL_law_325 hl (by decide) rfl (fun ls hl => ?_)
    refine lv_aload_n hx hb dL_law_327 rfl (lv_at hl 3 rfl) ?_
    refine lv_aload_n hx hb dL_law_328 rfl (lv_at hl 5 rfl) ?_
    refine lv_iload hx hb dL_law_329 (lv_at hl 1 rfl) ?_
    refine lv_iconst (v := nI 1) hx hb dL_law_331 (by decide +kernel) ?_
    refine lv_iadd hx hb dL_law_332 ?_
    refine lv_re (nI_add _ _) ?_
    refine va_sld C.hx C.hb hXs hbl hbA hS (vp_in_nI (by omega : i + 1 < L) (by omega)) dL_law_333 ?_
    rw [nI_clamp (by omega)]
    rw [← hx1]
    refine lv_aload_n hx hb dL_law_334 rfl (lv_at hl 5 rfl) ?_
    refine lv_iload hx hb dL_law_335 (lv_at hl 1 rfl) ?_
    refine lv_iconst (v := nI 2) hx hb dL_law_337 (by decide +kernel) ?_
    refine lv_iadd hx hb dL_law_338 ?_
    refine lv_re (nI_add _ _) ?_
    refine va_sld C.hx C.hb hXs hbl hbA hS (vp_in_nI (by omega : i + 2 < L) (by omega)) dL_law_339 ?_
    rw [nI_clamp (by omega)]
    rw [← hx2]
    refine lv_adr3 a10 ?_
    refine x_callV C hH hS (ci := 8) (t := (10, 0, 0)) hM9.1 rfl rfl (m_budget l (E := E) (base := base) hM9 hI (x := x1) (y := x2)) hH kX7_budget qw_787 qw_788 qw_786 rfl [] rfl hl.1 (Nat.le_of_ble_eq_true rfl) ⟨(Nat.le_of_ble_eq_true rfl), (Nat.le_of_ble_eq_true rfl)⟩ dL_law_340 ⟨by show cells + 2 + 0 ≤ 601024; omega, by show slots + 12 + 0 ≤ 7293034; omega⟩ (fun r H locs hp hS => ?_)
    obtain ⟨⟨v9, rfl⟩, hp⟩ := hp
    rcases hp with ⟨g1, hP8⟩ | ⟨g1, g2, hP8⟩ | ⟨f8, hf8, e8, g2, hr8, hP8⟩
    · skip
      obtain ⟨w8, fr8, hH, hM8, hf8⟩ := hP8
      have hR8 := hR9.of (fun t ht => hf8 t (by unfold dm at ht; omega)) (fun _ _ => rfl)
      replace hO8 := (hf8 (20, 0, 0) (by decide)).trans hO8
      refine lv_istore (lv' := [(6, .int v9), (5, .int (nI 1)), (4, .int (nI i)), (3, .ref (al (20, 0, 0))), (2, .ref (al (10, 0, 0))), (1, .ref (al (0, 0, 0))), (0, .ref b)]) hx hb dL_law_343 hl (by decide) rfl (fun ls hl => ?_)
      refine lv_aload_n hx hb dL_law_345 rfl (lv_at hl 4 rfl) ?_
      refine lv_adr a10 ?_
      refine x_callV C hH hS (ci := 8) (t := (10, 0, 0)) hM8.1 rfl rfl (m_thrown l (E := E) (base := base) hM8 ) hH kX7_thrown qw_756 qw_757 qw_755 rfl [] rfl hl.1 (Nat.le_of_ble_eq_true rfl) ⟨(Nat.le_of_ble_eq_true rfl), (Nat.le_of_ble_eq_true rfl)⟩ dL_law_346 ⟨by show cells + 2 + 0 ≤ 601024; omega, by show slots + 12 + 0 ≤ 7293034; omega⟩ (fun r H locs hp hS => ?_)
      obtain ⟨rfl, hH⟩ := hp
      refine lv_iload hx hb dL_law_349 (lv_at hl 1 rfl) ?_
      refine lv_icmp_eq (tgt := 356) hx hb dL_law_351 (by decide) (fun c_1 => ?_) (fun c_1 => absurd (by decide +kernel) c_1)
      clear c_1
      refine lv_iload hx hb dL_law_356 (lv_at hl 1 rfl) ?_
      refine lv_if_ne (tgt := 373) hx hb dL_law_358 (by decide) (fun c_2 => ?_) (fun c_2 => absurd c_2 (by decide +kernel))
      clear c_2
      refine lv_goto (tgt := 1307) hx hb dL_law_373 (by decide) ?_
      refine W.widen (k := cells + 30) (n := slots + 700) (by show cells + 2 + 0 + 0 ≤ _; omega) (by show slots + 12 + 0 + 0 ≤ _; omega) ?_
      exact kk _ _ _ ⟨al9, w8, _, _, _, _, _, _, _, fr8, _, hH, hR8, hI, hM8, hO8, h09, a10.symm, a20.symm⟩ hS (lv_sub hl [2, 3, 4, 5, 6] rfl)
    · skip
      exfalso; first | exact c1 g1 | exact g1 c1 | exact c2 g2 | exact g2 c2 | exact c3 g3 | exact g3 c3 | (have q9 := (nI_eq (by have := hI.1; have := hI.2.1; have := hI.2.2.1; omega) (by have := hI.1; have := hI.2.1; have := hI.2.2.1; omega)).mp e8; subst q9; first | exact c4 g4 | exact g4 c4)
    · skip
      have g1 : inR _ np := ⟨f8, hf8, e8⟩
      exfalso; first | exact c1 g1 | exact g1 c1 | exact c2 g2 | exact g2 c2 | exact c3 g3 | exact g3 c3 | (have q9 := (nI_eq (by have := hI.1; have := hI.2.1; have := hI.2.2.1; omega) (by have := hI.1; have := hI.2.1; have := hI.2.2.1; omega)).mp e8; subst q9; first | exact c4 g4 | exact g4 c4)
  · skip
    obtain ⟨al9, hal9⟩ : ∃ z : Tg → Nat, z = al := ⟨_, rfl⟩
    have hfa : ∀ t : Tg, 10 ≤ t.1 → al9 t = al t := fun t _ => by rw [hal9]
    have h09 : al9 (0, 0, 0) = al (0, 0, 0) := by rw [hal9]
    have hR9 := hR
    have hM9 := hMM
    have hO8 := hO
    rw [← hal9] at hH hR9 hM9
    have a10 := (hfa (10, 0, 0) (by decide)).symm
    have a20 := (hfa (20, 0, 0) (by decide)).symm
    refine lv_istore (lv' := [(5, .int (nI 2)), (4, .int (nI i)), (3, .ref (al (20, 0, 0))), (2, .ref (al (10, 0, 0))), (1, .ref (al (0, 0, 0))), (0, .ref b)]) hx hb dL_law_325 hl (by decide) rfl (fun ls hl => ?_)
    refine lv_aload_n hx hb dL_law_327 rfl (lv_at hl 3 rfl) ?_
    refine lv_aload_n hx hb dL_law_328 rfl (lv_at hl 5 rfl) ?_
    refine lv_iload hx hb dL_law_329 (lv_at hl 1 rfl) ?_
    refine lv_iconst (v := nI 1) hx hb dL_law_331 (by decide +kernel) ?_
    refine lv_iadd hx hb dL_law_332 ?_
    refine lv_re (nI_add _ _) ?_
    refine va_sld C.hx C.hb hXs hbl hbA hS (vp_in_nI (by omega : i + 1 < L) (by omega)) dL_law_333 ?_
    rw [nI_clamp (by omega)]
    rw [← hx1]
    refine lv_aload_n hx hb dL_law_334 rfl (lv_at hl 5 rfl) ?_
    refine lv_iload hx hb dL_law_335 (lv_at hl 1 rfl) ?_
    refine lv_iconst (v := nI 2) hx hb dL_law_337 (by decide +kernel) ?_
    refine lv_iadd hx hb dL_law_338 ?_
    refine lv_re (nI_add _ _) ?_
    refine va_sld C.hx C.hb hXs hbl hbA hS (vp_in_nI (by omega : i + 2 < L) (by omega)) dL_law_339 ?_
    rw [nI_clamp (by omega)]
    rw [← hx2]
    refine lv_adr3 a10 ?_
    refine x_callV C hH hS (ci := 8) (t := (10, 0, 0)) hM9.1 rfl rfl (m_budget l (E := E) (base := base) hM9 hI (x := x1) (y := x2)) hH kX7_budget qw_787 qw_788 qw_786 rfl [] rfl hl.1 (Nat.le_of_ble_eq_true rfl) ⟨(Nat.le_of_ble_eq_true rfl), (Nat.le_of_ble_eq_true rfl)⟩ dL_law_340 ⟨by show cells + 2 + 0 ≤ 601024; omega, by show slots + 12 + 0 ≤ 7293034; omega⟩ (fun r H locs hp hS => ?_)
    obtain ⟨⟨v9, rfl⟩, hp⟩ := hp
    rcases hp with ⟨g1, hP8⟩ | ⟨g1, g2, hP8⟩ | ⟨f8, hf8, e8, g2, hr8, hP8⟩
    · skip
      exfalso; first | exact c1 g1 | exact g1 c1 | exact c2 g2 | exact g2 c2 | exact c3 g3 | exact g3 c3 | (have q9 := (nI_eq (by have := hI.1; have := hI.2.1; have := hI.2.2.1; omega) (by have := hI.1; have := hI.2.1; have := hI.2.2.1; omega)).mp e8; subst q9; first | exact c4 g4 | exact g4 c4)
    · skip
      obtain ⟨w8, fr8, hH, hM8, hf8⟩ := hP8
      have hR8 := hR9.of (fun t ht => hf8 t (by unfold dm at ht; omega)) (fun _ _ => rfl)
      replace hO8 := (hf8 (20, 0, 0) (by decide)).trans hO8
      refine lv_istore (lv' := [(6, .int v9), (5, .int (nI 2)), (4, .int (nI i)), (3, .ref (al (20, 0, 0))), (2, .ref (al (10, 0, 0))), (1, .ref (al (0, 0, 0))), (0, .ref b)]) hx hb dL_law_343 hl (by decide) rfl (fun ls hl => ?_)
      refine lv_aload_n hx hb dL_law_345 rfl (lv_at hl 4 rfl) ?_
      refine lv_adr a10 ?_
      refine x_callV C hH hS (ci := 8) (t := (10, 0, 0)) hM8.1 rfl rfl (m_thrown l (E := E) (base := base) hM8 ) hH kX7_thrown qw_756 qw_757 qw_755 rfl [] rfl hl.1 (Nat.le_of_ble_eq_true rfl) ⟨(Nat.le_of_ble_eq_true rfl), (Nat.le_of_ble_eq_true rfl)⟩ dL_law_346 ⟨by show cells + 2 + 0 ≤ 601024; omega, by show slots + 12 + 0 ≤ 7293034; omega⟩ (fun r H locs hp hS => ?_)
      obtain ⟨rfl, hH⟩ := hp
      refine lv_iload hx hb dL_law_349 (lv_at hl 1 rfl) ?_
      refine lv_icmp_eq (tgt := 356) hx hb dL_law_351 (by decide) (fun c_3 => ?_) (fun c_3 => absurd (by decide +kernel) c_3)
      clear c_3
      refine lv_iload hx hb dL_law_356 (lv_at hl 1 rfl) ?_
      refine lv_if_ne (tgt := 373) hx hb dL_law_358 (by decide) (fun c_4 => ?_) (fun c_4 => absurd c_4 (by decide +kernel))
      clear c_4
      refine lv_goto (tgt := 1307) hx hb dL_law_373 (by decide) ?_
      refine W.widen (k := cells + 30) (n := slots + 700) (by show cells + 2 + 0 + 0 ≤ _; omega) (by show slots + 12 + 0 + 0 ≤ _; omega) ?_
      exact kk _ _ _ ⟨al9, w8, _, _, _, _, _, _, _, fr8, _, hH, hR8, hI, hM8, hO8, h09, a10.symm, a20.symm⟩ hS (lv_sub hl [2, 3, 4, 5, 6] rfl)
    · skip
      have g1 : inR _ np := ⟨f8, hf8, e8⟩
      exfalso; first | exact c1 g1 | exact g1 c1 | exact c2 g2 | exact g2 c2 | exact c3 g3 | exact g3 c3 | (have q9 := (nI_eq (by have := hI.1; have := hI.2.1; have := hI.2.2.1; omega) (by have := hI.1; have := hI.2.1; have := hI.2.2.1; omega)).mp e8; subst q9; first | exact c4 g4 | exact g4 c4)
  · skip
    have c1 : inR (nI pp) np := ⟨pp, hpp, rfl⟩
    obtain ⟨al9, w9, fo9, hH, hR9, hO8, ho8, hfa, hfw, h09⟩ := hP
    have hM9 := hMM.mv (fun t ht => hfw t (by omega) (fun e => by rw [e] at ht; revert ht; simp)) (fun t ht => hfa t (by omega))
    have a10 := (hfa (10, 0, 0) (by decide)).symm
    have a20 := (hfa (20, 0, 0) (by decide)).symm
    refine lv_istore (lv' := [(5, .int (nI 0)), (4, .int (nI i)), (3, .ref (al (20, 0, 0))), (2, .ref (al (10, 0, 0))), (1, .ref (al (0, 0, 0))), (0, .ref b)]) hx hb dL_law_325 hl (by decide) rfl (fun ls hl => ?_)
    refine lv_aload_n hx hb dL_law_327 rfl (lv_at hl 3 rfl) ?_
    refine lv_aload_n hx hb dL_law_328 rfl (lv_at hl 5 rfl) ?_
    refine lv_iload hx hb dL_law_329 (lv_at hl 1 rfl) ?_
    refine lv_iconst (v := nI 1) hx hb dL_law_331 (by decide +kernel) ?_
    refine lv_iadd hx hb dL_law_332 ?_
    refine lv_re (nI_add _ _) ?_
    refine va_sld C.hx C.hb hXs hbl hbA hS (vp_in_nI (by omega : i + 1 < L) (by omega)) dL_law_333 ?_
    rw [nI_clamp (by omega)]
    rw [← hx1]
    refine lv_aload_n hx hb dL_law_334 rfl (lv_at hl 5 rfl) ?_
    refine lv_iload hx hb dL_law_335 (lv_at hl 1 rfl) ?_
    refine lv_iconst (v := nI 2) hx hb dL_law_337 (by decide +kernel) ?_
    refine lv_iadd hx hb dL_law_338 ?_
    refine lv_re (nI_add _ _) ?_
    refine va_sld C.hx C.hb hXs hbl hbA hS (vp_in_nI (by omega : i + 2 < L) (by omega)) dL_law_339 ?_
    rw [nI_clamp (by omega)]
    rw [← hx2]
    refine lv_adr3 a10 ?_
    refine x_callV C hH hS (ci := 8) (t := (10, 0, 0)) hM9.1 rfl rfl (m_budget l (E := E) (base := base) hM9 hI (x := nI pp) (y := x2)) hH kX7_budget qw_787 qw_788 qw_786 rfl [] rfl hl.1 (Nat.le_of_ble_eq_true rfl) ⟨(Nat.le_of_ble_eq_true rfl), (Nat.le_of_ble_eq_true rfl)⟩ dL_law_340 ⟨by show cells + 2 + 0 ≤ 601024; omega, by show slots + 12 + 0 ≤ 7293034; omega⟩ (fun r H locs hp hS => ?_)
    obtain ⟨⟨v9, rfl⟩, hp⟩ := hp
    rcases hp with ⟨g1, hP8⟩ | ⟨g1, g2, hP8⟩ | ⟨f8, hf8, e8, g2, hr8, hP8⟩
    · skip
      exfalso; first | exact c1 g1 | exact g1 c1 | exact c2 g2 | exact g2 c2 | exact c3 g3 | exact g3 c3 | (have q9 := (nI_eq (by have := hI.1; have := hI.2.1; have := hI.2.2.1; omega) (by have := hI.1; have := hI.2.1; have := hI.2.2.1; omega)).mp e8; subst q9; first | exact c4 g4 | exact g4 c4)
    · skip
      exfalso; first | exact c1 g1 | exact g1 c1 | exact c2 g2 | exact g2 c2 | exact c3 g3 | exact g3 c3 | (have q9 := (nI_eq (by have := hI.1; have := hI.2.1; have := hI.2.2.1; omega) (by have := hI.1; have := hI.2.1; have := hI.2.2.1; omega)).mp e8; subst q9; first | exact c4 g4 | exact g4 c4)
    · skip
      have g1 : inR _ np := ⟨f8, hf8, e8⟩
      have q9 := (nI_eq (by have := hI.1; have := hI.2.1; have := hI.2.2.1; omega) (by have := hI.1; have := hI.2.1; have := hI.2.2.1; omega)).mp e8
      subst q9
      have hv9 := Value.int.inj (Option.some.inj hr8)
      have ho9 : fo9 0 = v9.toInt64 := by rw [hv9]; exact ho8
      obtain ⟨w8, fr8, hH, hM8, hf8⟩ := hP8
      have hR8 := hR9.of (fun t ht => hf8 t (by unfold dm at ht; omega)) (fun _ _ => rfl)
      replace hO8 := (hf8 (20, 0, 0) (by decide)).trans hO8
      refine lv_istore (lv' := [(6, .int v9), (5, .int (nI 0)), (4, .int (nI i)), (3, .ref (al (20, 0, 0))), (2, .ref (al (10, 0, 0))), (1, .ref (al (0, 0, 0))), (0, .ref b)]) hx hb dL_law_343 hl (by decide) rfl (fun ls hl => ?_)
      refine lv_aload_n hx hb dL_law_345 rfl (lv_at hl 4 rfl) ?_
      refine lv_adr a10 ?_
      refine x_callV C hH hS (ci := 8) (t := (10, 0, 0)) hM8.1 rfl rfl (m_thrown l (E := E) (base := base) hM8 ) hH kX7_thrown qw_756 qw_757 qw_755 rfl [] rfl hl.1 (Nat.le_of_ble_eq_true rfl) ⟨(Nat.le_of_ble_eq_true rfl), (Nat.le_of_ble_eq_true rfl)⟩ dL_law_346 ⟨by show cells + 2 + 0 ≤ 601024; omega, by show slots + 12 + 0 ≤ 7293034; omega⟩ (fun r H locs hp hS => ?_)
      obtain ⟨rfl, hH⟩ := hp
      refine lv_iload hx hb dL_law_349 (lv_at hl 1 rfl) ?_
      refine lv_icmp_eq (tgt := 356) hx hb dL_law_351 (by decide) (fun c_5 => ?_) (fun c_5 => absurd (by decide +kernel) c_5)
      clear c_5
      refine lv_iload hx hb dL_law_356 (lv_at hl 1 rfl) ?_
      refine lv_if_ne (tgt := 373) hx hb dL_law_358 (by decide) (fun c_6 => absurd (by decide +kernel) c_6) (fun c_6 => ?_)
      clear c_6
      refine lv_aload_n hx hb dL_law_361 rfl (lv_at hl 3 rfl) ?_
      refine lv_iconst (v := nI 0) hx hb dL_law_362 (by decide +kernel) ?_
      refine lv_adr2 a20 ?_
      refine x_lald C hH hO8 (j := 0) rfl (by omega) (by omega) dL_law_363 ?_
      rw [ho9]
      refine lv_iload hx hb dL_law_364 (lv_at hl 0 rfl) ?_
      refine lv_i2l hx hb dL_law_366 rfl ?_
      refine lv_lcmp hx hb dL_law_367 ?_
      refine lv_re (y := nI 0) (lcv_self _) ?_
      refine lv_if_eq (tgt := 373) hx hb dL_law_368 (by decide) (fun c_7 => ?_) (fun c_7 => absurd (by decide +kernel) c_7)
      clear c_7
      refine lv_goto (tgt := 1307) hx hb dL_law_373 (by decide) ?_
      refine W.widen (k := cells + 30) (n := slots + 700) (by show cells + 2 + 0 + 0 ≤ _; omega) (by show slots + 12 + 0 + 0 ≤ _; omega) ?_
      exact kk _ _ _ ⟨al9, w8, _, _, _, _, _, _, _, fr8, _, hH, hR8, INV_bu hI, hM8, hO8, h09, a10.symm, a20.symm⟩ hS (lv_sub hl [2, 3, 4, 5, 6] rfl)

set_option maxHeartbeats 4000000 in
set_option maxRecDepth 100000 in
theorem op_change (l : Launch) (hfl : l.stackTraces = false) {p : Program} {e : Env} {s : State} {m : MethodId} {below : List Frame} {meth : Method} {c : Code} {ret9 : Option FieldType} {E : xE} {base b L : Nat} {xs : Nat → Int32} {Q : State → Prop} (C : XC p s m #[Value.ref b] meth c "DataroomLaw" cL_law 7 ret9 E base) (hXs : va_X b L xs s s.heap) (hbl : b < s.heap.size) (hbA : ¬ xA base b) {cells slots i : Nat} (hcs : cells + 30 ≤ 601024) (hss : slots + 700 ≤ 7293034) (hi : i + 6 ≤ L) (hL : L ≤ 3072)
    {al : Tg → Nat} {w : Tg → Option va_E} {nf np na nw : Nat} {sg : Nat → Nat → Nat → Int32} {rc : Nat → Bool} {th : Int32} {fr : Nat → Int32} {fo : Nat → Int64} (hR : RM E al w nf np na nw sg rc) (hI : INV nf np na nw sg rc) (hMM : MMf E al w th nf np na nw sg rc fr) (hO : w (20, 0, 0) = some (.inl (E.2.1 1, 1, .inr (.inl fo)))) {H : Heap} {locs : List Loc} {ls : Array Slot} (hH : xH E base al w H) (hS : va_S (xA base) s.heap H locs) (hl : lv_has ls 7 [(4, .int (nI i)), (3, .ref (al (20, 0, 0))), (2, .ref (al (10, 0, 0))), (1, .ref (al (0, 0, 0))), (0, .ref b)])
    (kk : ∀ (H : Heap) (locs : List Loc) (ls : Array Slot), SI E base (al (0, 0, 0)) (al (10, 0, 0)) (al (20, 0, 0)) H → va_S (xA base) s.heap H locs → lv_has ls 7 [(4, .int (nI i)), (3, .ref (al (20, 0, 0))), (2, .ref (al (10, 0, 0))), (1, .ref (al (0, 0, 0))), (0, .ref b)] → W p l e room_1 s m #[Value.ref b] below meth c H locs (cells + 30) (slots + 700) Q (F0 m 1307 ls [])) : W p l e room_1 s m #[Value.ref b] below meth c H locs cells slots Q (F0 m 184 ls []) := by
  have hx := C.hx
  have hb := C.hb
  refine lv_aload_n hx hb dL_law_184 rfl (lv_at hl 3 rfl) ?_
  refine lv_aload_n hx hb dL_law_185 rfl (lv_at hl 4 rfl) ?_
  refine lv_iload hx hb dL_law_186 (lv_at hl 0 rfl) ?_
  refine lv_iconst (v := nI 1) hx hb dL_law_188 (by decide +kernel) ?_
  refine lv_iadd hx hb dL_law_189 ?_
  refine lv_re (nI_add _ _) ?_
  refine va_sld C.hx C.hb hXs hbl hbA hS (vp_in_nI (by omega : i + 1 < L) (by omega)) dL_law_190 ?_
  rw [nI_clamp (by omega)]
  obtain ⟨x1, hx1⟩ : ∃ z9, z9 = xs (i + 1) := ⟨_, rfl⟩
  rw [← hx1]
  refine lv_aload_n hx hb dL_law_191 rfl (lv_at hl 4 rfl) ?_
  refine lv_iload hx hb dL_law_192 (lv_at hl 0 rfl) ?_
  refine lv_iconst (v := nI 2) hx hb dL_law_194 (by decide +kernel) ?_
  refine lv_iadd hx hb dL_law_195 ?_
  refine lv_re (nI_add _ _) ?_
  refine va_sld C.hx C.hb hXs hbl hbA hS (vp_in_nI (by omega : i + 2 < L) (by omega)) dL_law_196 ?_
  rw [nI_clamp (by omega)]
  obtain ⟨x2, hx2⟩ : ∃ z9, z9 = xs (i + 2) := ⟨_, rfl⟩
  rw [← hx2]
  refine lv_aload_n hx hb dL_law_197 rfl (lv_at hl 1 rfl) ?_
  refine x_callH (k := 4) C hS (l_change l hfl (E := E) (base := base) hR hI hO (x := x1) (y := x2)) hH qw_283 qw_0 ⟨by decide +kernel, by decide +kernel, by decide +kernel⟩ qw_282 qw_281 rfl [] rfl hl.1 (Nat.le_of_ble_eq_true rfl) ⟨(Nat.le_of_ble_eq_true rfl), (Nat.le_of_ble_eq_true rfl)⟩ dL_law_198 ⟨by show cells + 2 ≤ 601024; omega, by show slots + 12 ≤ 7293034; omega⟩ (fun r H locs hp hS => ?_)
  rcases hp with ⟨rfl, c1, hH⟩ | ⟨rfl, c1, c2, hH⟩ | ⟨rfl, f, hf, rfl, c2, hP⟩
  · skip
    obtain ⟨al9, hal9⟩ : ∃ z : Tg → Nat, z = al := ⟨_, rfl⟩
    have hfa : ∀ t : Tg, 10 ≤ t.1 → al9 t = al t := fun t _ => by rw [hal9]
    have h09 : al9 (0, 0, 0) = al (0, 0, 0) := by rw [hal9]
    have hR9 := hR
    have hM9 := hMM
    have hO8 := hO
    rw [← hal9] at hH hR9 hM9
    have a10 := (hfa (10, 0, 0) (by decide)).symm
    have a20 := (hfa (20, 0, 0) (by decide)).symm
    refine lv_istore (lv' := [(5, .int (nI 1)), (4, .int (nI i)), (3, .ref (al (20, 0, 0))), (2, .ref (al (10, 0, 0))), (1, .ref (al (0, 0, 0))), (0, .ref b)]) hx hb dL_law_201 hl (by decide) rfl (fun ls hl => ?_)
    refine lv_aload_n hx hb dL_law_203 rfl (lv_at hl 3 rfl) ?_
    refine lv_aload_n hx hb dL_law_204 rfl (lv_at hl 5 rfl) ?_
    refine lv_iload hx hb dL_law_205 (lv_at hl 1 rfl) ?_
    refine lv_iconst (v := nI 1) hx hb dL_law_207 (by decide +kernel) ?_
    refine lv_iadd hx hb dL_law_208 ?_
    refine lv_re (nI_add _ _) ?_
    refine va_sld C.hx C.hb hXs hbl hbA hS (vp_in_nI (by omega : i + 1 < L) (by omega)) dL_law_209 ?_
    rw [nI_clamp (by omega)]
    rw [← hx1]
    refine lv_aload_n hx hb dL_law_210 rfl (lv_at hl 5 rfl) ?_
    refine lv_iload hx hb dL_law_211 (lv_at hl 1 rfl) ?_
    refine lv_iconst (v := nI 2) hx hb dL_law_213 (by decide +kernel) ?_
    refine lv_iadd hx hb dL_law_214 ?_
    refine lv_re (nI_add _ _) ?_
    refine va_sld C.hx C.hb hXs hbl hbA hS (vp_in_nI (by omega : i + 2 < L) (by omega)) dL_law_215 ?_
    rw [nI_clamp (by omega)]
    rw [← hx2]
    refine lv_adr3 a10 ?_
    refine x_callV C hH hS (ci := 8) (t := (10, 0, 0)) hM9.1 rfl rfl (m_change l (E := E) (base := base) hM9 hI (x := x1) (y := x2)) hH kX7_change qw_771 qw_772 qw_770 rfl [] rfl hl.1 (Nat.le_of_ble_eq_true rfl) ⟨(Nat.le_of_ble_eq_true rfl), (Nat.le_of_ble_eq_true rfl)⟩ dL_law_216 ⟨by show cells + 2 + 0 ≤ 601024; omega, by show slots + 12 + 0 ≤ 7293034; omega⟩ (fun r H locs hp hS => ?_)
    obtain ⟨⟨v9, rfl⟩, hp⟩ := hp
    rcases hp with ⟨g1, hP8⟩ | ⟨g1, g2, hP8⟩ | ⟨f8, hf8, e8, g2, hr8, hP8⟩
    · skip
      obtain ⟨w8, fr8, hH, hM8, hf8⟩ := hP8
      have hR8 := hR9.of (fun t ht => hf8 t (by unfold dm at ht; omega)) (fun _ _ => rfl)
      replace hO8 := (hf8 (20, 0, 0) (by decide)).trans hO8
      refine lv_istore (lv' := [(6, .int v9), (5, .int (nI 1)), (4, .int (nI i)), (3, .ref (al (20, 0, 0))), (2, .ref (al (10, 0, 0))), (1, .ref (al (0, 0, 0))), (0, .ref b)]) hx hb dL_law_219 hl (by decide) rfl (fun ls hl => ?_)
      refine lv_aload_n hx hb dL_law_221 rfl (lv_at hl 4 rfl) ?_
      refine lv_adr a10 ?_
      refine x_callV C hH hS (ci := 8) (t := (10, 0, 0)) hM8.1 rfl rfl (m_thrown l (E := E) (base := base) hM8 ) hH kX7_thrown qw_756 qw_757 qw_755 rfl [] rfl hl.1 (Nat.le_of_ble_eq_true rfl) ⟨(Nat.le_of_ble_eq_true rfl), (Nat.le_of_ble_eq_true rfl)⟩ dL_law_222 ⟨by show cells + 2 + 0 ≤ 601024; omega, by show slots + 12 + 0 ≤ 7293034; omega⟩ (fun r H locs hp hS => ?_)
      obtain ⟨rfl, hH⟩ := hp
      refine lv_iload hx hb dL_law_225 (lv_at hl 1 rfl) ?_
      refine lv_icmp_eq (tgt := 232) hx hb dL_law_227 (by decide) (fun c_1 => ?_) (fun c_1 => absurd (by decide +kernel) c_1)
      clear c_1
      refine lv_iload hx hb dL_law_232 (lv_at hl 1 rfl) ?_
      refine lv_if_ne (tgt := 249) hx hb dL_law_234 (by decide) (fun c_2 => ?_) (fun c_2 => absurd c_2 (by decide +kernel))
      clear c_2
      refine lv_goto (tgt := 1307) hx hb dL_law_249 (by decide) ?_
      refine W.widen (k := cells + 30) (n := slots + 700) (by show cells + 2 + 0 + 0 ≤ _; omega) (by show slots + 12 + 0 + 0 ≤ _; omega) ?_
      exact kk _ _ _ ⟨al9, w8, _, _, _, _, _, _, _, fr8, _, hH, hR8, hI, hM8, hO8, h09, a10.symm, a20.symm⟩ hS (lv_sub hl [2, 3, 4, 5, 6] rfl)
    · skip
      exfalso; first | exact c1 g1 | exact g1 c1 | exact c2 g2 | exact g2 c2 | exact c3 g3 | exact g3 c3 | (have q9 := (nI_eq (by have := hI.1; have := hI.2.1; have := hI.2.2.1; omega) (by have := hI.1; have := hI.2.1; have := hI.2.2.1; omega)).mp e8; subst q9; first | exact c4 g4 | exact g4 c4)
    · skip
      have g1 : inR _ nf := ⟨f8, hf8, e8⟩
      exfalso; first | exact c1 g1 | exact g1 c1 | exact c2 g2 | exact g2 c2 | exact c3 g3 | exact g3 c3 | (have q9 := (nI_eq (by have := hI.1; have := hI.2.1; have := hI.2.2.1; omega) (by have := hI.1; have := hI.2.1; have := hI.2.2.1; omega)).mp e8; subst q9; first | exact c4 g4 | exact g4 c4)
  · skip
    obtain ⟨al9, hal9⟩ : ∃ z : Tg → Nat, z = al := ⟨_, rfl⟩
    have hfa : ∀ t : Tg, 10 ≤ t.1 → al9 t = al t := fun t _ => by rw [hal9]
    have h09 : al9 (0, 0, 0) = al (0, 0, 0) := by rw [hal9]
    have hR9 := hR
    have hM9 := hMM
    have hO8 := hO
    rw [← hal9] at hH hR9 hM9
    have a10 := (hfa (10, 0, 0) (by decide)).symm
    have a20 := (hfa (20, 0, 0) (by decide)).symm
    refine lv_istore (lv' := [(5, .int (nI 2)), (4, .int (nI i)), (3, .ref (al (20, 0, 0))), (2, .ref (al (10, 0, 0))), (1, .ref (al (0, 0, 0))), (0, .ref b)]) hx hb dL_law_201 hl (by decide) rfl (fun ls hl => ?_)
    refine lv_aload_n hx hb dL_law_203 rfl (lv_at hl 3 rfl) ?_
    refine lv_aload_n hx hb dL_law_204 rfl (lv_at hl 5 rfl) ?_
    refine lv_iload hx hb dL_law_205 (lv_at hl 1 rfl) ?_
    refine lv_iconst (v := nI 1) hx hb dL_law_207 (by decide +kernel) ?_
    refine lv_iadd hx hb dL_law_208 ?_
    refine lv_re (nI_add _ _) ?_
    refine va_sld C.hx C.hb hXs hbl hbA hS (vp_in_nI (by omega : i + 1 < L) (by omega)) dL_law_209 ?_
    rw [nI_clamp (by omega)]
    rw [← hx1]
    refine lv_aload_n hx hb dL_law_210 rfl (lv_at hl 5 rfl) ?_
    refine lv_iload hx hb dL_law_211 (lv_at hl 1 rfl) ?_
    refine lv_iconst (v := nI 2) hx hb dL_law_213 (by decide +kernel) ?_
    refine lv_iadd hx hb dL_law_214 ?_
    refine lv_re (nI_add _ _) ?_
    refine va_sld C.hx C.hb hXs hbl hbA hS (vp_in_nI (by omega : i + 2 < L) (by omega)) dL_law_215 ?_
    rw [nI_clamp (by omega)]
    rw [← hx2]
    refine lv_adr3 a10 ?_
    refine x_callV C hH hS (ci := 8) (t := (10, 0, 0)) hM9.1 rfl rfl (m_change l (E := E) (base := base) hM9 hI (x := x1) (y := x2)) hH kX7_change qw_771 qw_772 qw_770 rfl [] rfl hl.1 (Nat.le_of_ble_eq_true rfl) ⟨(Nat.le_of_ble_eq_true rfl), (Nat.le_of_ble_eq_true rfl)⟩ dL_law_216 ⟨by show cells + 2 + 0 ≤ 601024; omega, by show slots + 12 + 0 ≤ 7293034; omega⟩ (fun r H locs hp hS => ?_)
    obtain ⟨⟨v9, rfl⟩, hp⟩ := hp
    rcases hp with ⟨g1, hP8⟩ | ⟨g1, g2, hP8⟩ | ⟨f8, hf8, e8, g2, hr8, hP8⟩
    · skip
      exfalso; first | exact c1 g1 | exact g1 c1 | exact c2 g2 | exact g2 c2 | exact c3 g3 | exact g3 c3 | (have q9 := (nI_eq (by have := hI.1; have := hI.2.1; have := hI.2.2.1; omega) (by have := hI.1; have := hI.2.1; have := hI.2.2.1; omega)).mp e8; subst q9; first | exact c4 g4 | exact g4 c4)
    · skip
      obtain ⟨w8, fr8, hH, hM8, hf8⟩ := hP8
      have hR8 := hR9.of (fun t ht => hf8 t (by unfold dm at ht; omega)) (fun _ _ => rfl)
      replace hO8 := (hf8 (20, 0, 0) (by decide)).trans hO8
      refine lv_istore (lv' := [(6, .int v9), (5, .int (nI 2)), (4, .int (nI i)), (3, .ref (al (20, 0, 0))), (2, .ref (al (10, 0, 0))), (1, .ref (al (0, 0, 0))), (0, .ref b)]) hx hb dL_law_219 hl (by decide) rfl (fun ls hl => ?_)
      refine lv_aload_n hx hb dL_law_221 rfl (lv_at hl 4 rfl) ?_
      refine lv_adr a10 ?_
      refine x_callV C hH hS (ci := 8) (t := (10, 0, 0)) hM8.1 rfl rfl (m_thrown l (E := E) (base := base) hM8 ) hH kX7_thrown qw_756 qw_757 qw_755 rfl [] rfl hl.1 (Nat.le_of_ble_eq_true rfl) ⟨(Nat.le_of_ble_eq_true rfl), (Nat.le_of_ble_eq_true rfl)⟩ dL_law_222 ⟨by show cells + 2 + 0 ≤ 601024; omega, by show slots + 12 + 0 ≤ 7293034; omega⟩ (fun r H locs hp hS => ?_)
      obtain ⟨rfl, hH⟩ := hp
      refine lv_iload hx hb dL_law_225 (lv_at hl 1 rfl) ?_
      refine lv_icmp_eq (tgt := 232) hx hb dL_law_227 (by decide) (fun c_3 => ?_) (fun c_3 => absurd (by decide +kernel) c_3)
      clear c_3
      refine lv_iload hx hb dL_law_232 (lv_at hl 1 rfl) ?_
      refine lv_if_ne (tgt := 249) hx hb dL_law_234 (by decide) (fun c_4 => ?_) (fun c_4 => absurd c_4 (by decide +kernel))
      clear c_4
      refine lv_goto (tgt := 1307) hx hb dL_law_249 (by decide) ?_
      refine W.widen (k := cells + 30) (n := slots + 700) (by show cells + 2 + 0 + 0 ≤ _; omega) (by show slots + 12 + 0 + 0 ≤ _; omega) ?_
      exact kk _ _ _ ⟨al9, w8, _, _, _, _, _, _, _, fr8, _, hH, hR8, hI, hM8, hO8, h09, a10.symm, a20.symm⟩ hS (lv_sub hl [2, 3, 4, 5, 6] rfl)
    · skip
      have g1 : inR _ nf := ⟨f8, hf8, e8⟩
      exfalso; first | exact c1 g1 | exact g1 c1 | exact c2 g2 | exact g2 c2 | exact c3 g3 | exact g3 c3 | (have q9 := (nI_eq (by have := hI.1; have := hI.2.1; have := hI.2.2.1; omega) (by have := hI.1; have := hI.2.1; have := hI.2.2.1; omega)).mp e8; subst q9; first | exact c4 g4 | exact g4 c4)
  · skip
    have c1 : inR (nI f) nf := ⟨f, hf, rfl⟩
    obtain ⟨al9, w9, fo9, hH, hR9, hO8, ho8, hfa, hfw, h09⟩ := hP
    have hM9 := hMM.mv (fun t ht => hfw t (by omega) (fun e => by rw [e] at ht; revert ht; simp)) (fun t ht => hfa t (by omega))
    have a10 := (hfa (10, 0, 0) (by decide)).symm
    have a20 := (hfa (20, 0, 0) (by decide)).symm
    refine lv_istore (lv' := [(5, .int (nI 0)), (4, .int (nI i)), (3, .ref (al (20, 0, 0))), (2, .ref (al (10, 0, 0))), (1, .ref (al (0, 0, 0))), (0, .ref b)]) hx hb dL_law_201 hl (by decide) rfl (fun ls hl => ?_)
    refine lv_aload_n hx hb dL_law_203 rfl (lv_at hl 3 rfl) ?_
    refine lv_aload_n hx hb dL_law_204 rfl (lv_at hl 5 rfl) ?_
    refine lv_iload hx hb dL_law_205 (lv_at hl 1 rfl) ?_
    refine lv_iconst (v := nI 1) hx hb dL_law_207 (by decide +kernel) ?_
    refine lv_iadd hx hb dL_law_208 ?_
    refine lv_re (nI_add _ _) ?_
    refine va_sld C.hx C.hb hXs hbl hbA hS (vp_in_nI (by omega : i + 1 < L) (by omega)) dL_law_209 ?_
    rw [nI_clamp (by omega)]
    rw [← hx1]
    refine lv_aload_n hx hb dL_law_210 rfl (lv_at hl 5 rfl) ?_
    refine lv_iload hx hb dL_law_211 (lv_at hl 1 rfl) ?_
    refine lv_iconst (v := nI 2) hx hb dL_law_213 (by decide +kernel) ?_
    refine lv_iadd hx hb dL_law_214 ?_
    refine lv_re (nI_add _ _) ?_
    refine va_sld C.hx C.hb hXs hbl hbA hS (vp_in_nI (by omega : i + 2 < L) (by omega)) dL_law_215 ?_
    rw [nI_clamp (by omega)]
    rw [← hx2]
    refine lv_adr3 a10 ?_
    refine x_callV C hH hS (ci := 8) (t := (10, 0, 0)) hM9.1 rfl rfl (m_change l (E := E) (base := base) hM9 hI (x := nI f) (y := x2)) hH kX7_change qw_771 qw_772 qw_770 rfl [] rfl hl.1 (Nat.le_of_ble_eq_true rfl) ⟨(Nat.le_of_ble_eq_true rfl), (Nat.le_of_ble_eq_true rfl)⟩ dL_law_216 ⟨by show cells + 2 + 0 ≤ 601024; omega, by show slots + 12 + 0 ≤ 7293034; omega⟩ (fun r H locs hp hS => ?_)
    obtain ⟨⟨v9, rfl⟩, hp⟩ := hp
    rcases hp with ⟨g1, hP8⟩ | ⟨g1, g2, hP8⟩ | ⟨f8, hf8, e8, g2, hr8, hP8⟩
    · skip
      exfalso; first | exact c1 g1 | exact g1 c1 | exact c2 g2 | exact g2 c2 | exact c3 g3 | exact g3 c3 | (have q9 := (nI_eq (by have := hI.1; have := hI.2.1; have := hI.2.2.1; omega) (by have := hI.1; have := hI.2.1; have := hI.2.2.1; omega)).mp e8; subst q9; first | exact c4 g4 | exact g4 c4)
    · skip
      exfalso; first | exact c1 g1 | exact g1 c1 | exact c2 g2 | exact g2 c2 | exact c3 g3 | exact g3 c3 | (have q9 := (nI_eq (by have := hI.1; have := hI.2.1; have := hI.2.2.1; omega) (by have := hI.1; have := hI.2.1; have := hI.2.2.1; omega)).mp e8; subst q9; first | exact c4 g4 | exact g4 c4)
    · skip
      have g1 : inR _ nf := ⟨f8, hf8, e8⟩
      have q9 := (nI_eq (by have := hI.1; have := hI.2.1; have := hI.2.2.1; omega) (by have := hI.1; have := hI.2.1; have := hI.2.2.1; omega)).mp e8
      subst q9
      have hv9 := Value.int.inj (Option.some.inj hr8)
      have ho9 : fo9 0 = v9.toInt64 := by rw [hv9]; exact ho8
      obtain ⟨w8, fr8, hH, hM8, hf8⟩ := hP8
      have hR8 := hR9.of (fun t ht => hf8 t (by unfold dm at ht; omega)) (fun _ _ => rfl)
      replace hO8 := (hf8 (20, 0, 0) (by decide)).trans hO8
      refine lv_istore (lv' := [(6, .int v9), (5, .int (nI 0)), (4, .int (nI i)), (3, .ref (al (20, 0, 0))), (2, .ref (al (10, 0, 0))), (1, .ref (al (0, 0, 0))), (0, .ref b)]) hx hb dL_law_219 hl (by decide) rfl (fun ls hl => ?_)
      refine lv_aload_n hx hb dL_law_221 rfl (lv_at hl 4 rfl) ?_
      refine lv_adr a10 ?_
      refine x_callV C hH hS (ci := 8) (t := (10, 0, 0)) hM8.1 rfl rfl (m_thrown l (E := E) (base := base) hM8 ) hH kX7_thrown qw_756 qw_757 qw_755 rfl [] rfl hl.1 (Nat.le_of_ble_eq_true rfl) ⟨(Nat.le_of_ble_eq_true rfl), (Nat.le_of_ble_eq_true rfl)⟩ dL_law_222 ⟨by show cells + 2 + 0 ≤ 601024; omega, by show slots + 12 + 0 ≤ 7293034; omega⟩ (fun r H locs hp hS => ?_)
      obtain ⟨rfl, hH⟩ := hp
      refine lv_iload hx hb dL_law_225 (lv_at hl 1 rfl) ?_
      refine lv_icmp_eq (tgt := 232) hx hb dL_law_227 (by decide) (fun c_5 => ?_) (fun c_5 => absurd (by decide +kernel) c_5)
      clear c_5
      refine lv_iload hx hb dL_law_232 (lv_at hl 1 rfl) ?_
      refine lv_if_ne (tgt := 249) hx hb dL_law_234 (by decide) (fun c_6 => absurd (by decide +kernel) c_6) (fun c_6 => ?_)
      clear c_6
      refine lv_aload_n hx hb dL_law_237 rfl (lv_at hl 3 rfl) ?_
      refine lv_iconst (v := nI 0) hx hb dL_law_238 (by decide +kernel) ?_
      refine lv_adr2 a20 ?_
      refine x_lald C hH hO8 (j := 0) rfl (by omega) (by omega) dL_law_239 ?_
      rw [ho9]
      refine lv_iload hx hb dL_law_240 (lv_at hl 0 rfl) ?_
      refine lv_i2l hx hb dL_law_242 rfl ?_
      refine lv_lcmp hx hb dL_law_243 ?_
      refine lv_re (y := nI 0) (lcv_self _) ?_
      refine lv_if_eq (tgt := 249) hx hb dL_law_244 (by decide) (fun c_7 => ?_) (fun c_7 => absurd (by decide +kernel) c_7)
      clear c_7
      refine lv_goto (tgt := 1307) hx hb dL_law_249 (by decide) ?_
      refine W.widen (k := cells + 30) (n := slots + 700) (by show cells + 2 + 0 + 0 ≤ _; omega) (by show slots + 12 + 0 + 0 ≤ _; omega) ?_
      exact kk _ _ _ ⟨al9, w8, _, _, _, _, _, _, _, fr8, _, hH, hR8, INV_k1 (INV_rc hI (rcA_out hI)), hM8, hO8, h09, a10.symm, a20.symm⟩ hS (lv_sub hl [2, 3, 4, 5, 6] rfl)

set_option maxHeartbeats 4000000 in
set_option maxRecDepth 100000 in
theorem op_cost (l : Launch) (hfl : l.stackTraces = false) {p : Program} {e : Env} {s : State} {m : MethodId} {below : List Frame} {meth : Method} {c : Code} {ret9 : Option FieldType} {E : xE} {base b L : Nat} {xs : Nat → Int32} {Q : State → Prop} (C : XC p s m #[Value.ref b] meth c "DataroomLaw" cL_law 7 ret9 E base) (hXs : va_X b L xs s s.heap) (hbl : b < s.heap.size) (hbA : ¬ xA base b) {cells slots i : Nat} (hcs : cells + 30 ≤ 601024) (hss : slots + 700 ≤ 7293034) (hi : i + 6 ≤ L) (hL : L ≤ 3072)
    {al : Tg → Nat} {w : Tg → Option va_E} {nf np na nw : Nat} {sg : Nat → Nat → Nat → Int32} {rc : Nat → Bool} {th : Int32} {fr : Nat → Int32} {fo : Nat → Int64} (hR : RM E al w nf np na nw sg rc) (hI : INV nf np na nw sg rc) (hMM : MMf E al w th nf np na nw sg rc fr) (hO : w (20, 0, 0) = some (.inl (E.2.1 1, 1, .inr (.inl fo)))) {H : Heap} {locs : List Loc} {ls : Array Slot} (hH : xH E base al w H) (hS : va_S (xA base) s.heap H locs) (hl : lv_has ls 7 [(4, .int (nI i)), (3, .ref (al (20, 0, 0))), (2, .ref (al (10, 0, 0))), (1, .ref (al (0, 0, 0))), (0, .ref b)])
    (kk : ∀ (H : Heap) (locs : List Loc) (ls : Array Slot), SI E base (al (0, 0, 0)) (al (10, 0, 0)) (al (20, 0, 0)) H → va_S (xA base) s.heap H locs → lv_has ls 7 [(4, .int (nI i)), (3, .ref (al (20, 0, 0))), (2, .ref (al (10, 0, 0))), (1, .ref (al (0, 0, 0))), (0, .ref b)] → W p l e room_1 s m #[Value.ref b] below meth c H locs (cells + 30) (slots + 700) Q (F0 m 1307 ls [])) : W p l e room_1 s m #[Value.ref b] below meth c H locs cells slots Q (F0 m 712 ls []) := by
  have hx := C.hx
  have hb := C.hb
  refine lv_aload_n hx hb dL_law_712 rfl (lv_at hl 3 rfl) ?_
  refine lv_aload_n hx hb dL_law_713 rfl (lv_at hl 4 rfl) ?_
  refine lv_iload hx hb dL_law_714 (lv_at hl 0 rfl) ?_
  refine lv_iconst (v := nI 1) hx hb dL_law_716 (by decide +kernel) ?_
  refine lv_iadd hx hb dL_law_717 ?_
  refine lv_re (nI_add _ _) ?_
  refine va_sld C.hx C.hb hXs hbl hbA hS (vp_in_nI (by omega : i + 1 < L) (by omega)) dL_law_718 ?_
  rw [nI_clamp (by omega)]
  obtain ⟨x1, hx1⟩ : ∃ z9, z9 = xs (i + 1) := ⟨_, rfl⟩
  rw [← hx1]
  refine lv_aload_n hx hb dL_law_719 rfl (lv_at hl 4 rfl) ?_
  refine lv_iload hx hb dL_law_720 (lv_at hl 0 rfl) ?_
  refine lv_iconst (v := nI 2) hx hb dL_law_722 (by decide +kernel) ?_
  refine lv_iadd hx hb dL_law_723 ?_
  refine lv_re (nI_add _ _) ?_
  refine va_sld C.hx C.hb hXs hbl hbA hS (vp_in_nI (by omega : i + 2 < L) (by omega)) dL_law_724 ?_
  rw [nI_clamp (by omega)]
  obtain ⟨x2, hx2⟩ : ∃ z9, z9 = xs (i + 2) := ⟨_, rfl⟩
  rw [← hx2]
  refine lv_aload_n hx hb dL_law_725 rfl (lv_at hl 4 rfl) ?_
  refine lv_iload hx hb dL_law_726 (lv_at hl 0 rfl) ?_
  refine lv_iconst (v := nI 3) hx hb dL_law_728 (by decide +kernel) ?_
  refine lv_iadd hx hb dL_law_729 ?_
  refine lv_re (nI_add _ _) ?_
  refine va_sld C.hx C.hb hXs hbl hbA hS (vp_in_nI (by omega : i + 3 < L) (by omega)) dL_law_730 ?_
  rw [nI_clamp (by omega)]
  obtain ⟨x3, hx3⟩ : ∃ z9, z9 = xs (i + 3) := ⟨_, rfl⟩
  rw [← hx3]
  refine lv_aload_n hx hb dL_law_731 rfl (lv_at hl 1 rfl) ?_
  refine x_callH (k := 5) C hS (l_cost l hfl (E := E) (base := base) hR hI hO (x := x1) (z := x2) (bit := x3)) hH qw_567 qw_0 ⟨by decide +kernel, by decide +kernel, by decide +kernel⟩ qw_566 qw_565 rfl [] rfl hl.1 (Nat.le_of_ble_eq_true rfl) ⟨(Nat.le_of_ble_eq_true rfl), (Nat.le_of_ble_eq_true rfl)⟩ dL_law_732 ⟨by show cells + 3 ≤ 601024; omega, by show slots + 18 ≤ 7293034; omega⟩ (fun r H locs hp hS => ?_)
  rcases hp with ⟨rfl, c1, hH⟩ | ⟨rfl, c1, c2, hH⟩ | ⟨rfl, pp, hpp, rfl, c2, hP⟩
  · skip
    obtain ⟨al9, hal9⟩ : ∃ z : Tg → Nat, z = al := ⟨_, rfl⟩
    have hfa : ∀ t : Tg, 10 ≤ t.1 → al9 t = al t := fun t _ => by rw [hal9]
    have h09 : al9 (0, 0, 0) = al (0, 0, 0) := by rw [hal9]
    have hR9 := hR
    have hM9 := hMM
    have hO8 := hO
    rw [← hal9] at hH hR9 hM9
    have a10 := (hfa (10, 0, 0) (by decide)).symm
    have a20 := (hfa (20, 0, 0) (by decide)).symm
    refine lv_istore (lv' := [(5, .int (nI 1)), (4, .int (nI i)), (3, .ref (al (20, 0, 0))), (2, .ref (al (10, 0, 0))), (1, .ref (al (0, 0, 0))), (0, .ref b)]) hx hb dL_law_735 hl (by decide) rfl (fun ls hl => ?_)
    refine lv_aload_n hx hb dL_law_737 rfl (lv_at hl 3 rfl) ?_
    refine lv_aload_n hx hb dL_law_738 rfl (lv_at hl 5 rfl) ?_
    refine lv_iload hx hb dL_law_739 (lv_at hl 1 rfl) ?_
    refine lv_iconst (v := nI 1) hx hb dL_law_741 (by decide +kernel) ?_
    refine lv_iadd hx hb dL_law_742 ?_
    refine lv_re (nI_add _ _) ?_
    refine va_sld C.hx C.hb hXs hbl hbA hS (vp_in_nI (by omega : i + 1 < L) (by omega)) dL_law_743 ?_
    rw [nI_clamp (by omega)]
    rw [← hx1]
    refine lv_aload_n hx hb dL_law_744 rfl (lv_at hl 5 rfl) ?_
    refine lv_iload hx hb dL_law_745 (lv_at hl 1 rfl) ?_
    refine lv_iconst (v := nI 2) hx hb dL_law_747 (by decide +kernel) ?_
    refine lv_iadd hx hb dL_law_748 ?_
    refine lv_re (nI_add _ _) ?_
    refine va_sld C.hx C.hb hXs hbl hbA hS (vp_in_nI (by omega : i + 2 < L) (by omega)) dL_law_749 ?_
    rw [nI_clamp (by omega)]
    rw [← hx2]
    refine lv_aload_n hx hb dL_law_750 rfl (lv_at hl 5 rfl) ?_
    refine lv_iload hx hb dL_law_751 (lv_at hl 1 rfl) ?_
    refine lv_iconst (v := nI 3) hx hb dL_law_753 (by decide +kernel) ?_
    refine lv_iadd hx hb dL_law_754 ?_
    refine lv_re (nI_add _ _) ?_
    refine va_sld C.hx C.hb hXs hbl hbA hS (vp_in_nI (by omega : i + 3 < L) (by omega)) dL_law_755 ?_
    rw [nI_clamp (by omega)]
    rw [← hx3]
    refine lv_adr4 a10 ?_
    refine x_callV C hH hS (ci := 8) (t := (10, 0, 0)) hM9.1 rfl rfl (m_cost l (E := E) (base := base) hM9 hI (x := x1) (z := x2) (bit := x3)) hH kX7_cost qw_861 qw_862 qw_860 rfl [] rfl hl.1 (Nat.le_of_ble_eq_true rfl) ⟨(Nat.le_of_ble_eq_true rfl), (Nat.le_of_ble_eq_true rfl)⟩ dL_law_756 ⟨by show cells + 3 + 0 ≤ 601024; omega, by show slots + 18 + 0 ≤ 7293034; omega⟩ (fun r H locs hp hS => ?_)
    obtain ⟨⟨v9, rfl⟩, hp⟩ := hp
    rcases hp with ⟨g1, hP8⟩ | ⟨g1, g2, hP8⟩ | ⟨f8, hf8, e8, g2, hr8, hP8⟩
    · skip
      obtain ⟨w8, fr8, hH, hM8, hf8⟩ := hP8
      have hR8 := hR9.of (fun t ht => hf8 t (by unfold dm at ht; omega)) (fun _ _ => rfl)
      replace hO8 := (hf8 (20, 0, 0) (by decide)).trans hO8
      refine lv_istore (lv' := [(6, .int v9), (5, .int (nI 1)), (4, .int (nI i)), (3, .ref (al (20, 0, 0))), (2, .ref (al (10, 0, 0))), (1, .ref (al (0, 0, 0))), (0, .ref b)]) hx hb dL_law_759 hl (by decide) rfl (fun ls hl => ?_)
      refine lv_aload_n hx hb dL_law_761 rfl (lv_at hl 4 rfl) ?_
      refine lv_adr a10 ?_
      refine x_callV C hH hS (ci := 8) (t := (10, 0, 0)) hM8.1 rfl rfl (m_thrown l (E := E) (base := base) hM8 ) hH kX7_thrown qw_756 qw_757 qw_755 rfl [] rfl hl.1 (Nat.le_of_ble_eq_true rfl) ⟨(Nat.le_of_ble_eq_true rfl), (Nat.le_of_ble_eq_true rfl)⟩ dL_law_762 ⟨by show cells + 3 + 0 ≤ 601024; omega, by show slots + 18 + 0 ≤ 7293034; omega⟩ (fun r H locs hp hS => ?_)
      obtain ⟨rfl, hH⟩ := hp
      refine lv_iload hx hb dL_law_765 (lv_at hl 1 rfl) ?_
      refine lv_icmp_eq (tgt := 772) hx hb dL_law_767 (by decide) (fun c_1 => ?_) (fun c_1 => absurd (by decide +kernel) c_1)
      clear c_1
      refine lv_iload hx hb dL_law_772 (lv_at hl 1 rfl) ?_
      refine lv_if_ne (tgt := 789) hx hb dL_law_774 (by decide) (fun c_2 => ?_) (fun c_2 => absurd c_2 (by decide +kernel))
      clear c_2
      refine lv_goto (tgt := 1307) hx hb dL_law_789 (by decide) ?_
      refine W.widen (k := cells + 30) (n := slots + 700) (by show cells + 3 + 0 + 0 ≤ _; omega) (by show slots + 18 + 0 + 0 ≤ _; omega) ?_
      exact kk _ _ _ ⟨al9, w8, _, _, _, _, _, _, _, fr8, _, hH, hR8, hI, hM8, hO8, h09, a10.symm, a20.symm⟩ hS (lv_sub hl [2, 3, 4, 5, 6] rfl)
    · skip
      exfalso; first | exact c1 g1 | exact g1 c1 | exact c2 g2 | exact g2 c2 | exact c3 g3 | exact g3 c3 | (have q9 := (nI_eq (by have := hI.1; have := hI.2.1; have := hI.2.2.1; omega) (by have := hI.1; have := hI.2.1; have := hI.2.2.1; omega)).mp e8; subst q9; first | exact c4 g4 | exact g4 c4)
    · skip
      have g1 : inR _ np := ⟨f8, hf8, e8⟩
      exfalso; first | exact c1 g1 | exact g1 c1 | exact c2 g2 | exact g2 c2 | exact c3 g3 | exact g3 c3 | (have q9 := (nI_eq (by have := hI.1; have := hI.2.1; have := hI.2.2.1; omega) (by have := hI.1; have := hI.2.1; have := hI.2.2.1; omega)).mp e8; subst q9; first | exact c4 g4 | exact g4 c4)
  · skip
    obtain ⟨al9, hal9⟩ : ∃ z : Tg → Nat, z = al := ⟨_, rfl⟩
    have hfa : ∀ t : Tg, 10 ≤ t.1 → al9 t = al t := fun t _ => by rw [hal9]
    have h09 : al9 (0, 0, 0) = al (0, 0, 0) := by rw [hal9]
    have hR9 := hR
    have hM9 := hMM
    have hO8 := hO
    rw [← hal9] at hH hR9 hM9
    have a10 := (hfa (10, 0, 0) (by decide)).symm
    have a20 := (hfa (20, 0, 0) (by decide)).symm
    refine lv_istore (lv' := [(5, .int (nI 2)), (4, .int (nI i)), (3, .ref (al (20, 0, 0))), (2, .ref (al (10, 0, 0))), (1, .ref (al (0, 0, 0))), (0, .ref b)]) hx hb dL_law_735 hl (by decide) rfl (fun ls hl => ?_)
    refine lv_aload_n hx hb dL_law_737 rfl (lv_at hl 3 rfl) ?_
    refine lv_aload_n hx hb dL_law_738 rfl (lv_at hl 5 rfl) ?_
    refine lv_iload hx hb dL_law_739 (lv_at hl 1 rfl) ?_
    refine lv_iconst (v := nI 1) hx hb dL_law_741 (by decide +kernel) ?_
    refine lv_iadd hx hb dL_law_742 ?_
    refine lv_re (nI_add _ _) ?_
    refine va_sld C.hx C.hb hXs hbl hbA hS (vp_in_nI (by omega : i + 1 < L) (by omega)) dL_law_743 ?_
    rw [nI_clamp (by omega)]
    rw [← hx1]
    refine lv_aload_n hx hb dL_law_744 rfl (lv_at hl 5 rfl) ?_
    refine lv_iload hx hb dL_law_745 (lv_at hl 1 rfl) ?_
    refine lv_iconst (v := nI 2) hx hb dL_law_747 (by decide +kernel) ?_
    refine lv_iadd hx hb dL_law_748 ?_
    refine lv_re (nI_add _ _) ?_
    refine va_sld C.hx C.hb hXs hbl hbA hS (vp_in_nI (by omega : i + 2 < L) (by omega)) dL_law_749 ?_
    rw [nI_clamp (by omega)]
    rw [← hx2]
    refine lv_aload_n hx hb dL_law_750 rfl (lv_at hl 5 rfl) ?_
    refine lv_iload hx hb dL_law_751 (lv_at hl 1 rfl) ?_
    refine lv_iconst (v := nI 3) hx hb dL_law_753 (by decide +kernel) ?_
    refine lv_iadd hx hb dL_law_754 ?_
    refine lv_re (nI_add _ _) ?_
    refine va_sld C.hx C.hb hXs hbl hbA hS (vp_in_nI (by omega : i + 3 < L) (by omega)) dL_law_755 ?_
    rw [nI_clamp (by omega)]
    rw [← hx3]
    refine lv_adr4 a10 ?_
    refine x_callV C hH hS (ci := 8) (t := (10, 0, 0)) hM9.1 rfl rfl (m_cost l (E := E) (base := base) hM9 hI (x := x1) (z := x2) (bit := x3)) hH kX7_cost qw_861 qw_862 qw_860 rfl [] rfl hl.1 (Nat.le_of_ble_eq_true rfl) ⟨(Nat.le_of_ble_eq_true rfl), (Nat.le_of_ble_eq_true rfl)⟩ dL_law_756 ⟨by show cells + 3 + 0 ≤ 601024; omega, by show slots + 18 + 0 ≤ 7293034; omega⟩ (fun r H locs hp hS => ?_)
    obtain ⟨⟨v9, rfl⟩, hp⟩ := hp
    rcases hp with ⟨g1, hP8⟩ | ⟨g1, g2, hP8⟩ | ⟨f8, hf8, e8, g2, hr8, hP8⟩
    · skip
      exfalso; first | exact c1 g1 | exact g1 c1 | exact c2 g2 | exact g2 c2 | exact c3 g3 | exact g3 c3 | (have q9 := (nI_eq (by have := hI.1; have := hI.2.1; have := hI.2.2.1; omega) (by have := hI.1; have := hI.2.1; have := hI.2.2.1; omega)).mp e8; subst q9; first | exact c4 g4 | exact g4 c4)
    · skip
      obtain ⟨w8, fr8, hH, hM8, hf8⟩ := hP8
      have hR8 := hR9.of (fun t ht => hf8 t (by unfold dm at ht; omega)) (fun _ _ => rfl)
      replace hO8 := (hf8 (20, 0, 0) (by decide)).trans hO8
      refine lv_istore (lv' := [(6, .int v9), (5, .int (nI 2)), (4, .int (nI i)), (3, .ref (al (20, 0, 0))), (2, .ref (al (10, 0, 0))), (1, .ref (al (0, 0, 0))), (0, .ref b)]) hx hb dL_law_759 hl (by decide) rfl (fun ls hl => ?_)
      refine lv_aload_n hx hb dL_law_761 rfl (lv_at hl 4 rfl) ?_
      refine lv_adr a10 ?_
      refine x_callV C hH hS (ci := 8) (t := (10, 0, 0)) hM8.1 rfl rfl (m_thrown l (E := E) (base := base) hM8 ) hH kX7_thrown qw_756 qw_757 qw_755 rfl [] rfl hl.1 (Nat.le_of_ble_eq_true rfl) ⟨(Nat.le_of_ble_eq_true rfl), (Nat.le_of_ble_eq_true rfl)⟩ dL_law_762 ⟨by show cells + 3 + 0 ≤ 601024; omega, by show slots + 18 + 0 ≤ 7293034; omega⟩ (fun r H locs hp hS => ?_)
      obtain ⟨rfl, hH⟩ := hp
      refine lv_iload hx hb dL_law_765 (lv_at hl 1 rfl) ?_
      refine lv_icmp_eq (tgt := 772) hx hb dL_law_767 (by decide) (fun c_3 => ?_) (fun c_3 => absurd (by decide +kernel) c_3)
      clear c_3
      refine lv_iload hx hb dL_law_772 (lv_at hl 1 rfl) ?_
      refine lv_if_ne (tgt := 789) hx hb dL_law_774 (by decide) (fun c_4 => ?_) (fun c_4 => absurd c_4 (by decide +kernel))
      clear c_4
      refine lv_goto (tgt := 1307) hx hb dL_law_789 (by decide) ?_
      refine W.widen (k := cells + 30) (n := slots + 700) (by show cells + 3 + 0 + 0 ≤ _; omega) (by show slots + 18 + 0 + 0 ≤ _; omega) ?_
      exact kk _ _ _ ⟨al9, w8, _, _, _, _, _, _, _, fr8, _, hH, hR8, hI, hM8, hO8, h09, a10.symm, a20.symm⟩ hS (lv_sub hl [2, 3, 4, 5, 6] rfl)
    · skip
      have g1 : inR _ np := ⟨f8, hf8, e8⟩
      exfalso; first | exact c1 g1 | exact g1 c1 | exact c2 g2 | exact g2 c2 | exact c3 g3 | exact g3 c3 | (have q9 := (nI_eq (by have := hI.1; have := hI.2.1; have := hI.2.2.1; omega) (by have := hI.1; have := hI.2.1; have := hI.2.2.1; omega)).mp e8; subst q9; first | exact c4 g4 | exact g4 c4)
  · skip
    have c1 : inR (nI pp) np := ⟨pp, hpp, rfl⟩
    obtain ⟨al9, w9, fo9, hH, hR9, hO8, ho8, hfa, hfw, h09⟩ := hP
    have hM9 := hMM.mv (fun t ht => hfw t (by omega) (fun e => by rw [e] at ht; revert ht; simp)) (fun t ht => hfa t (by omega))
    have a10 := (hfa (10, 0, 0) (by decide)).symm
    have a20 := (hfa (20, 0, 0) (by decide)).symm
    refine lv_istore (lv' := [(5, .int (nI 0)), (4, .int (nI i)), (3, .ref (al (20, 0, 0))), (2, .ref (al (10, 0, 0))), (1, .ref (al (0, 0, 0))), (0, .ref b)]) hx hb dL_law_735 hl (by decide) rfl (fun ls hl => ?_)
    refine lv_aload_n hx hb dL_law_737 rfl (lv_at hl 3 rfl) ?_
    refine lv_aload_n hx hb dL_law_738 rfl (lv_at hl 5 rfl) ?_
    refine lv_iload hx hb dL_law_739 (lv_at hl 1 rfl) ?_
    refine lv_iconst (v := nI 1) hx hb dL_law_741 (by decide +kernel) ?_
    refine lv_iadd hx hb dL_law_742 ?_
    refine lv_re (nI_add _ _) ?_
    refine va_sld C.hx C.hb hXs hbl hbA hS (vp_in_nI (by omega : i + 1 < L) (by omega)) dL_law_743 ?_
    rw [nI_clamp (by omega)]
    rw [← hx1]
    refine lv_aload_n hx hb dL_law_744 rfl (lv_at hl 5 rfl) ?_
    refine lv_iload hx hb dL_law_745 (lv_at hl 1 rfl) ?_
    refine lv_iconst (v := nI 2) hx hb dL_law_747 (by decide +kernel) ?_
    refine lv_iadd hx hb dL_law_748 ?_
    refine lv_re (nI_add _ _) ?_
    refine va_sld C.hx C.hb hXs hbl hbA hS (vp_in_nI (by omega : i + 2 < L) (by omega)) dL_law_749 ?_
    rw [nI_clamp (by omega)]
    rw [← hx2]
    refine lv_aload_n hx hb dL_law_750 rfl (lv_at hl 5 rfl) ?_
    refine lv_iload hx hb dL_law_751 (lv_at hl 1 rfl) ?_
    refine lv_iconst (v := nI 3) hx hb dL_law_753 (by decide +kernel) ?_
    refine lv_iadd hx hb dL_law_754 ?_
    refine lv_re (nI_add _ _) ?_
    refine va_sld C.hx C.hb hXs hbl hbA hS (vp_in_nI (by omega : i + 3 < L) (by omega)) dL_law_755 ?_
    rw [nI_clamp (by omega)]
    rw [← hx3]
    refine lv_adr4 a10 ?_
    refine x_callV C hH hS (ci := 8) (t := (10, 0, 0)) hM9.1 rfl rfl (m_cost l (E := E) (base := base) hM9 hI (x := nI pp) (z := x2) (bit := x3)) hH kX7_cost qw_861 qw_862 qw_860 rfl [] rfl hl.1 (Nat.le_of_ble_eq_true rfl) ⟨(Nat.le_of_ble_eq_true rfl), (Nat.le_of_ble_eq_true rfl)⟩ dL_law_756 ⟨by show cells + 3 + 0 ≤ 601024; omega, by show slots + 18 + 0 ≤ 7293034; omega⟩ (fun r H locs hp hS => ?_)
    obtain ⟨⟨v9, rfl⟩, hp⟩ := hp
    rcases hp with ⟨g1, hP8⟩ | ⟨g1, g2, hP8⟩ | ⟨f8, hf8, e8, g2, hr8, hP8⟩
    · skip
      exfalso; first | exact c1 g1 | exact g1 c1 | exact c2 g2 | exact g2 c2 | exact c3 g3 | exact g3 c3 | (have q9 := (nI_eq (by have := hI.1; have := hI.2.1; have := hI.2.2.1; omega) (by have := hI.1; have := hI.2.1; have := hI.2.2.1; omega)).mp e8; subst q9; first | exact c4 g4 | exact g4 c4)
    · skip
      exfalso; first | exact c1 g1 | exact g1 c1 | exact c2 g2 | exact g2 c2 | exact c3 g3 | exact g3 c3 | (have q9 := (nI_eq (by have := hI.1; have := hI.2.1; have := hI.2.2.1; omega) (by have := hI.1; have := hI.2.1; have := hI.2.2.1; omega)).mp e8; subst q9; first | exact c4 g4 | exact g4 c4)
    · skip
      have g1 : inR _ np := ⟨f8, hf8, e8⟩
      have q9 := (nI_eq (by have := hI.1; have := hI.2.1; have := hI.2.2.1; omega) (by have := hI.1; have := hI.2.1; have := hI.2.2.1; omega)).mp e8
      subst q9
      have hv9 := Value.int.inj (Option.some.inj hr8)
      have ho9 : fo9 0 = v9.toInt64 := by rw [hv9]; exact ho8
      obtain ⟨w8, fr8, hH, hM8, hf8⟩ := hP8
      have hR8 := hR9.of (fun t ht => hf8 t (by unfold dm at ht; omega)) (fun _ _ => rfl)
      replace hO8 := (hf8 (20, 0, 0) (by decide)).trans hO8
      refine lv_istore (lv' := [(6, .int v9), (5, .int (nI 0)), (4, .int (nI i)), (3, .ref (al (20, 0, 0))), (2, .ref (al (10, 0, 0))), (1, .ref (al (0, 0, 0))), (0, .ref b)]) hx hb dL_law_759 hl (by decide) rfl (fun ls hl => ?_)
      refine lv_aload_n hx hb dL_law_761 rfl (lv_at hl 4 rfl) ?_
      refine lv_adr a10 ?_
      refine x_callV C hH hS (ci := 8) (t := (10, 0, 0)) hM8.1 rfl rfl (m_thrown l (E := E) (base := base) hM8 ) hH kX7_thrown qw_756 qw_757 qw_755 rfl [] rfl hl.1 (Nat.le_of_ble_eq_true rfl) ⟨(Nat.le_of_ble_eq_true rfl), (Nat.le_of_ble_eq_true rfl)⟩ dL_law_762 ⟨by show cells + 3 + 0 ≤ 601024; omega, by show slots + 18 + 0 ≤ 7293034; omega⟩ (fun r H locs hp hS => ?_)
      obtain ⟨rfl, hH⟩ := hp
      refine lv_iload hx hb dL_law_765 (lv_at hl 1 rfl) ?_
      refine lv_icmp_eq (tgt := 772) hx hb dL_law_767 (by decide) (fun c_5 => ?_) (fun c_5 => absurd (by decide +kernel) c_5)
      clear c_5
      refine lv_iload hx hb dL_law_772 (lv_at hl 1 rfl) ?_
      refine lv_if_ne (tgt := 789) hx hb dL_law_774 (by decide) (fun c_6 => absurd (by decide +kernel) c_6) (fun c_6 => ?_)
      clear c_6
      refine lv_aload_n hx hb dL_law_777 rfl (lv_at hl 3 rfl) ?_
      refine lv_iconst (v := nI 0) hx hb dL_law_778 (by decide +kernel) ?_
      refine lv_adr2 a20 ?_
      refine x_lald C hH hO8 (j := 0) rfl (by omega) (by omega) dL_law_779 ?_
      rw [ho9]
      refine lv_iload hx hb dL_law_780 (lv_at hl 0 rfl) ?_
      refine lv_i2l hx hb dL_law_782 rfl ?_
      refine lv_lcmp hx hb dL_law_783 ?_
      refine lv_re (y := nI 0) (lcv_self _) ?_
      refine lv_if_eq (tgt := 789) hx hb dL_law_784 (by decide) (fun c_7 => ?_) (fun c_7 => absurd (by decide +kernel) c_7)
      clear c_7
      refine lv_goto (tgt := 1307) hx hb dL_law_789 (by decide) ?_
      refine W.widen (k := cells + 30) (n := slots + 700) (by show cells + 3 + 0 + 0 ≤ _; omega) (by show slots + 18 + 0 + 0 ≤ _; omega) ?_
      exact kk _ _ _ ⟨al9, w8, _, _, _, _, _, _, _, fr8, _, hH, hR8, hI, hM8, hO8, h09, a10.symm, a20.symm⟩ hS (lv_sub hl [2, 3, 4, 5, 6] rfl)

set_option maxHeartbeats 4000000 in
set_option maxRecDepth 100000 in
theorem op_together (l : Launch) (hfl : l.stackTraces = false) {p : Program} {e : Env} {s : State} {m : MethodId} {below : List Frame} {meth : Method} {c : Code} {ret9 : Option FieldType} {E : xE} {base b L : Nat} {xs : Nat → Int32} {Q : State → Prop} (C : XC p s m #[Value.ref b] meth c "DataroomLaw" cL_law 7 ret9 E base) (hXs : va_X b L xs s s.heap) (hbl : b < s.heap.size) (hbA : ¬ xA base b) {cells slots i : Nat} (hcs : cells + 30 ≤ 601024) (hss : slots + 700 ≤ 7293034) (hi : i + 6 ≤ L) (hL : L ≤ 3072)
    {al : Tg → Nat} {w : Tg → Option va_E} {nf np na nw : Nat} {sg : Nat → Nat → Nat → Int32} {rc : Nat → Bool} {th : Int32} {fr : Nat → Int32} {fo : Nat → Int64} (hR : RM E al w nf np na nw sg rc) (hI : INV nf np na nw sg rc) (hMM : MMf E al w th nf np na nw sg rc fr) (hO : w (20, 0, 0) = some (.inl (E.2.1 1, 1, .inr (.inl fo)))) {H : Heap} {locs : List Loc} {ls : Array Slot} (hH : xH E base al w H) (hS : va_S (xA base) s.heap H locs) (hl : lv_has ls 7 [(4, .int (nI i)), (3, .ref (al (20, 0, 0))), (2, .ref (al (10, 0, 0))), (1, .ref (al (0, 0, 0))), (0, .ref b)])
    (kk : ∀ (H : Heap) (locs : List Loc) (ls : Array Slot), SI E base (al (0, 0, 0)) (al (10, 0, 0)) (al (20, 0, 0)) H → va_S (xA base) s.heap H locs → lv_has ls 7 [(4, .int (nI i)), (3, .ref (al (20, 0, 0))), (2, .ref (al (10, 0, 0))), (1, .ref (al (0, 0, 0))), (0, .ref b)] → W p l e room_1 s m #[Value.ref b] below meth c H locs (cells + 30) (slots + 700) Q (F0 m 1307 ls [])) : W p l e room_1 s m #[Value.ref b] below meth c H locs cells slots Q (F0 m 1040 ls []) := by
  have hx := C.hx
  have hb := C.hb
  refine lv_aload_n hx hb dL_law_1040 rfl (lv_at hl 3 rfl) ?_
  refine lv_aload_n hx hb dL_law_1041 rfl (lv_at hl 4 rfl) ?_
  refine lv_iload hx hb dL_law_1042 (lv_at hl 0 rfl) ?_
  refine lv_iconst (v := nI 1) hx hb dL_law_1044 (by decide +kernel) ?_
  refine lv_iadd hx hb dL_law_1045 ?_
  refine lv_re (nI_add _ _) ?_
  refine va_sld C.hx C.hb hXs hbl hbA hS (vp_in_nI (by omega : i + 1 < L) (by omega)) dL_law_1046 ?_
  rw [nI_clamp (by omega)]
  obtain ⟨x1, hx1⟩ : ∃ z9, z9 = xs (i + 1) := ⟨_, rfl⟩
  rw [← hx1]
  refine lv_aload_n hx hb dL_law_1047 rfl (lv_at hl 4 rfl) ?_
  refine lv_iload hx hb dL_law_1048 (lv_at hl 0 rfl) ?_
  refine lv_iconst (v := nI 2) hx hb dL_law_1050 (by decide +kernel) ?_
  refine lv_iadd hx hb dL_law_1051 ?_
  refine lv_re (nI_add _ _) ?_
  refine va_sld C.hx C.hb hXs hbl hbA hS (vp_in_nI (by omega : i + 2 < L) (by omega)) dL_law_1052 ?_
  rw [nI_clamp (by omega)]
  obtain ⟨x2, hx2⟩ : ∃ z9, z9 = xs (i + 2) := ⟨_, rfl⟩
  rw [← hx2]
  refine lv_aload_n hx hb dL_law_1053 rfl (lv_at hl 1 rfl) ?_
  refine x_callH (k := 4) C hS (l_together l hfl (E := E) (base := base) hR hI hO (xs := x1) (z := x2)) hH qw_646 qw_0 ⟨by decide +kernel, by decide +kernel, by decide +kernel⟩ qw_645 qw_644 rfl [] rfl hl.1 (Nat.le_of_ble_eq_true rfl) ⟨(Nat.le_of_ble_eq_true rfl), (Nat.le_of_ble_eq_true rfl)⟩ dL_law_1054 ⟨by show cells + 2 ≤ 601024; omega, by show slots + 12 ≤ 7293034; omega⟩ (fun r H locs hp hS => ?_)
  rcases hp with ⟨rfl, c1, hH⟩ | ⟨rfl, c1, c2, hH⟩ | ⟨rfl, f, hf, rfl, c2, hP⟩
  · skip
    obtain ⟨al9, hal9⟩ : ∃ z : Tg → Nat, z = al := ⟨_, rfl⟩
    have hfa : ∀ t : Tg, 10 ≤ t.1 → al9 t = al t := fun t _ => by rw [hal9]
    have h09 : al9 (0, 0, 0) = al (0, 0, 0) := by rw [hal9]
    have hR9 := hR
    have hM9 := hMM
    have hO8 := hO
    rw [← hal9] at hH hR9 hM9
    have a10 := (hfa (10, 0, 0) (by decide)).symm
    have a20 := (hfa (20, 0, 0) (by decide)).symm
    refine lv_istore (lv' := [(5, .int (nI 1)), (4, .int (nI i)), (3, .ref (al (20, 0, 0))), (2, .ref (al (10, 0, 0))), (1, .ref (al (0, 0, 0))), (0, .ref b)]) hx hb dL_law_1057 hl (by decide) rfl (fun ls hl => ?_)
    refine lv_aload_n hx hb dL_law_1059 rfl (lv_at hl 3 rfl) ?_
    refine lv_aload_n hx hb dL_law_1060 rfl (lv_at hl 5 rfl) ?_
    refine lv_iload hx hb dL_law_1061 (lv_at hl 1 rfl) ?_
    refine lv_iconst (v := nI 1) hx hb dL_law_1063 (by decide +kernel) ?_
    refine lv_iadd hx hb dL_law_1064 ?_
    refine lv_re (nI_add _ _) ?_
    refine va_sld C.hx C.hb hXs hbl hbA hS (vp_in_nI (by omega : i + 1 < L) (by omega)) dL_law_1065 ?_
    rw [nI_clamp (by omega)]
    rw [← hx1]
    refine lv_aload_n hx hb dL_law_1066 rfl (lv_at hl 5 rfl) ?_
    refine lv_iload hx hb dL_law_1067 (lv_at hl 1 rfl) ?_
    refine lv_iconst (v := nI 2) hx hb dL_law_1069 (by decide +kernel) ?_
    refine lv_iadd hx hb dL_law_1070 ?_
    refine lv_re (nI_add _ _) ?_
    refine va_sld C.hx C.hb hXs hbl hbA hS (vp_in_nI (by omega : i + 2 < L) (by omega)) dL_law_1071 ?_
    rw [nI_clamp (by omega)]
    rw [← hx2]
    refine lv_adr3 a10 ?_
    refine x_callV C hH hS (ci := 8) (t := (10, 0, 0)) hM9.1 rfl rfl (m_together l (E := E) (base := base) hM9 hI (xs := x1) (z := x2)) hH kX7_together qw_885 qw_886 qw_884 rfl [] rfl hl.1 (Nat.le_of_ble_eq_true rfl) ⟨(Nat.le_of_ble_eq_true rfl), (Nat.le_of_ble_eq_true rfl)⟩ dL_law_1072 ⟨by show cells + 2 + 0 ≤ 601024; omega, by show slots + 12 + 0 ≤ 7293034; omega⟩ (fun r H locs hp hS => ?_)
    obtain ⟨⟨v9, rfl⟩, hp⟩ := hp
    rcases hp with ⟨g1, hP8⟩ | ⟨g1, g2, hP8⟩ | ⟨f8, hf8, e8, g2, hr8, hP8⟩
    · skip
      obtain ⟨w8, fr8, hH, hM8, hf8⟩ := hP8
      have hR8 := hR9.of (fun t ht => hf8 t (by unfold dm at ht; omega)) (fun _ _ => rfl)
      replace hO8 := (hf8 (20, 0, 0) (by decide)).trans hO8
      refine lv_istore (lv' := [(6, .int v9), (5, .int (nI 1)), (4, .int (nI i)), (3, .ref (al (20, 0, 0))), (2, .ref (al (10, 0, 0))), (1, .ref (al (0, 0, 0))), (0, .ref b)]) hx hb dL_law_1075 hl (by decide) rfl (fun ls hl => ?_)
      refine lv_aload_n hx hb dL_law_1077 rfl (lv_at hl 4 rfl) ?_
      refine lv_adr a10 ?_
      refine x_callV C hH hS (ci := 8) (t := (10, 0, 0)) hM8.1 rfl rfl (m_thrown l (E := E) (base := base) hM8 ) hH kX7_thrown qw_756 qw_757 qw_755 rfl [] rfl hl.1 (Nat.le_of_ble_eq_true rfl) ⟨(Nat.le_of_ble_eq_true rfl), (Nat.le_of_ble_eq_true rfl)⟩ dL_law_1078 ⟨by show cells + 2 + 0 ≤ 601024; omega, by show slots + 12 + 0 ≤ 7293034; omega⟩ (fun r H locs hp hS => ?_)
      obtain ⟨rfl, hH⟩ := hp
      refine lv_iload hx hb dL_law_1081 (lv_at hl 1 rfl) ?_
      refine lv_icmp_eq (tgt := 1088) hx hb dL_law_1083 (by decide) (fun c_1 => ?_) (fun c_1 => absurd (by decide +kernel) c_1)
      clear c_1
      refine lv_iload hx hb dL_law_1088 (lv_at hl 1 rfl) ?_
      refine lv_if_ne (tgt := 1105) hx hb dL_law_1090 (by decide) (fun c_2 => ?_) (fun c_2 => absurd c_2 (by decide +kernel))
      clear c_2
      refine lv_goto (tgt := 1307) hx hb dL_law_1105 (by decide) ?_
      refine W.widen (k := cells + 30) (n := slots + 700) (by show cells + 2 + 0 + 0 ≤ _; omega) (by show slots + 12 + 0 + 0 ≤ _; omega) ?_
      exact kk _ _ _ ⟨al9, w8, _, _, _, _, _, _, _, fr8, _, hH, hR8, hI, hM8, hO8, h09, a10.symm, a20.symm⟩ hS (lv_sub hl [2, 3, 4, 5, 6] rfl)
    · skip
      exfalso; first | exact c1 g1 | exact g1 c1 | exact c2 g2 | exact g2 c2 | exact c3 g3 | exact g3 c3 | (have q9 := (nI_eq (by have := hI.1; have := hI.2.1; have := hI.2.2.1; omega) (by have := hI.1; have := hI.2.1; have := hI.2.2.1; omega)).mp e8; subst q9; first | exact c4 g4 | exact g4 c4)
    · skip
      have g1 : inR _ nf := ⟨f8, hf8, e8⟩
      exfalso; first | exact c1 g1 | exact g1 c1 | exact c2 g2 | exact g2 c2 | exact c3 g3 | exact g3 c3 | (have q9 := (nI_eq (by have := hI.1; have := hI.2.1; have := hI.2.2.1; omega) (by have := hI.1; have := hI.2.1; have := hI.2.2.1; omega)).mp e8; subst q9; first | exact c4 g4 | exact g4 c4)
  · skip
    obtain ⟨al9, hal9⟩ : ∃ z : Tg → Nat, z = al := ⟨_, rfl⟩
    have hfa : ∀ t : Tg, 10 ≤ t.1 → al9 t = al t := fun t _ => by rw [hal9]
    have h09 : al9 (0, 0, 0) = al (0, 0, 0) := by rw [hal9]
    have hR9 := hR
    have hM9 := hMM
    have hO8 := hO
    rw [← hal9] at hH hR9 hM9
    have a10 := (hfa (10, 0, 0) (by decide)).symm
    have a20 := (hfa (20, 0, 0) (by decide)).symm
    refine lv_istore (lv' := [(5, .int (nI 2)), (4, .int (nI i)), (3, .ref (al (20, 0, 0))), (2, .ref (al (10, 0, 0))), (1, .ref (al (0, 0, 0))), (0, .ref b)]) hx hb dL_law_1057 hl (by decide) rfl (fun ls hl => ?_)
    refine lv_aload_n hx hb dL_law_1059 rfl (lv_at hl 3 rfl) ?_
    refine lv_aload_n hx hb dL_law_1060 rfl (lv_at hl 5 rfl) ?_
    refine lv_iload hx hb dL_law_1061 (lv_at hl 1 rfl) ?_
    refine lv_iconst (v := nI 1) hx hb dL_law_1063 (by decide +kernel) ?_
    refine lv_iadd hx hb dL_law_1064 ?_
    refine lv_re (nI_add _ _) ?_
    refine va_sld C.hx C.hb hXs hbl hbA hS (vp_in_nI (by omega : i + 1 < L) (by omega)) dL_law_1065 ?_
    rw [nI_clamp (by omega)]
    rw [← hx1]
    refine lv_aload_n hx hb dL_law_1066 rfl (lv_at hl 5 rfl) ?_
    refine lv_iload hx hb dL_law_1067 (lv_at hl 1 rfl) ?_
    refine lv_iconst (v := nI 2) hx hb dL_law_1069 (by decide +kernel) ?_
    refine lv_iadd hx hb dL_law_1070 ?_
    refine lv_re (nI_add _ _) ?_
    refine va_sld C.hx C.hb hXs hbl hbA hS (vp_in_nI (by omega : i + 2 < L) (by omega)) dL_law_1071 ?_
    rw [nI_clamp (by omega)]
    rw [← hx2]
    refine lv_adr3 a10 ?_
    refine x_callV C hH hS (ci := 8) (t := (10, 0, 0)) hM9.1 rfl rfl (m_together l (E := E) (base := base) hM9 hI (xs := x1) (z := x2)) hH kX7_together qw_885 qw_886 qw_884 rfl [] rfl hl.1 (Nat.le_of_ble_eq_true rfl) ⟨(Nat.le_of_ble_eq_true rfl), (Nat.le_of_ble_eq_true rfl)⟩ dL_law_1072 ⟨by show cells + 2 + 0 ≤ 601024; omega, by show slots + 12 + 0 ≤ 7293034; omega⟩ (fun r H locs hp hS => ?_)
    obtain ⟨⟨v9, rfl⟩, hp⟩ := hp
    rcases hp with ⟨g1, hP8⟩ | ⟨g1, g2, hP8⟩ | ⟨f8, hf8, e8, g2, hr8, hP8⟩
    · skip
      exfalso; first | exact c1 g1 | exact g1 c1 | exact c2 g2 | exact g2 c2 | exact c3 g3 | exact g3 c3 | (have q9 := (nI_eq (by have := hI.1; have := hI.2.1; have := hI.2.2.1; omega) (by have := hI.1; have := hI.2.1; have := hI.2.2.1; omega)).mp e8; subst q9; first | exact c4 g4 | exact g4 c4)
    · skip
      obtain ⟨w8, fr8, hH, hM8, hf8⟩ := hP8
      have hR8 := hR9.of (fun t ht => hf8 t (by unfold dm at ht; omega)) (fun _ _ => rfl)
      replace hO8 := (hf8 (20, 0, 0) (by decide)).trans hO8
      refine lv_istore (lv' := [(6, .int v9), (5, .int (nI 2)), (4, .int (nI i)), (3, .ref (al (20, 0, 0))), (2, .ref (al (10, 0, 0))), (1, .ref (al (0, 0, 0))), (0, .ref b)]) hx hb dL_law_1075 hl (by decide) rfl (fun ls hl => ?_)
      refine lv_aload_n hx hb dL_law_1077 rfl (lv_at hl 4 rfl) ?_
      refine lv_adr a10 ?_
      refine x_callV C hH hS (ci := 8) (t := (10, 0, 0)) hM8.1 rfl rfl (m_thrown l (E := E) (base := base) hM8 ) hH kX7_thrown qw_756 qw_757 qw_755 rfl [] rfl hl.1 (Nat.le_of_ble_eq_true rfl) ⟨(Nat.le_of_ble_eq_true rfl), (Nat.le_of_ble_eq_true rfl)⟩ dL_law_1078 ⟨by show cells + 2 + 0 ≤ 601024; omega, by show slots + 12 + 0 ≤ 7293034; omega⟩ (fun r H locs hp hS => ?_)
      obtain ⟨rfl, hH⟩ := hp
      refine lv_iload hx hb dL_law_1081 (lv_at hl 1 rfl) ?_
      refine lv_icmp_eq (tgt := 1088) hx hb dL_law_1083 (by decide) (fun c_3 => ?_) (fun c_3 => absurd (by decide +kernel) c_3)
      clear c_3
      refine lv_iload hx hb dL_law_1088 (lv_at hl 1 rfl) ?_
      refine lv_if_ne (tgt := 1105) hx hb dL_law_1090 (by decide) (fun c_4 => ?_) (fun c_4 => absurd c_4 (by decide +kernel))
      clear c_4
      refine lv_goto (tgt := 1307) hx hb dL_law_1105 (by decide) ?_
      refine W.widen (k := cells + 30) (n := slots + 700) (by show cells + 2 + 0 + 0 ≤ _; omega) (by show slots + 12 + 0 + 0 ≤ _; omega) ?_
      exact kk _ _ _ ⟨al9, w8, _, _, _, _, _, _, _, fr8, _, hH, hR8, hI, hM8, hO8, h09, a10.symm, a20.symm⟩ hS (lv_sub hl [2, 3, 4, 5, 6] rfl)
    · skip
      have g1 : inR _ nf := ⟨f8, hf8, e8⟩
      exfalso; first | exact c1 g1 | exact g1 c1 | exact c2 g2 | exact g2 c2 | exact c3 g3 | exact g3 c3 | (have q9 := (nI_eq (by have := hI.1; have := hI.2.1; have := hI.2.2.1; omega) (by have := hI.1; have := hI.2.1; have := hI.2.2.1; omega)).mp e8; subst q9; first | exact c4 g4 | exact g4 c4)
  · skip
    have c1 : inR (nI f) nf := ⟨f, hf, rfl⟩
    obtain ⟨al9, w9, fo9, hH, hR9, hO8, ho8, hfa, hfw, h09⟩ := hP
    have hM9 := hMM.mv (fun t ht => hfw t (by omega) (fun e => by rw [e] at ht; revert ht; simp)) (fun t ht => hfa t (by omega))
    have a10 := (hfa (10, 0, 0) (by decide)).symm
    have a20 := (hfa (20, 0, 0) (by decide)).symm
    refine lv_istore (lv' := [(5, .int (nI 0)), (4, .int (nI i)), (3, .ref (al (20, 0, 0))), (2, .ref (al (10, 0, 0))), (1, .ref (al (0, 0, 0))), (0, .ref b)]) hx hb dL_law_1057 hl (by decide) rfl (fun ls hl => ?_)
    refine lv_aload_n hx hb dL_law_1059 rfl (lv_at hl 3 rfl) ?_
    refine lv_aload_n hx hb dL_law_1060 rfl (lv_at hl 5 rfl) ?_
    refine lv_iload hx hb dL_law_1061 (lv_at hl 1 rfl) ?_
    refine lv_iconst (v := nI 1) hx hb dL_law_1063 (by decide +kernel) ?_
    refine lv_iadd hx hb dL_law_1064 ?_
    refine lv_re (nI_add _ _) ?_
    refine va_sld C.hx C.hb hXs hbl hbA hS (vp_in_nI (by omega : i + 1 < L) (by omega)) dL_law_1065 ?_
    rw [nI_clamp (by omega)]
    rw [← hx1]
    refine lv_aload_n hx hb dL_law_1066 rfl (lv_at hl 5 rfl) ?_
    refine lv_iload hx hb dL_law_1067 (lv_at hl 1 rfl) ?_
    refine lv_iconst (v := nI 2) hx hb dL_law_1069 (by decide +kernel) ?_
    refine lv_iadd hx hb dL_law_1070 ?_
    refine lv_re (nI_add _ _) ?_
    refine va_sld C.hx C.hb hXs hbl hbA hS (vp_in_nI (by omega : i + 2 < L) (by omega)) dL_law_1071 ?_
    rw [nI_clamp (by omega)]
    rw [← hx2]
    refine lv_adr3 a10 ?_
    refine x_callV C hH hS (ci := 8) (t := (10, 0, 0)) hM9.1 rfl rfl (m_together l (E := E) (base := base) hM9 hI (xs := x1) (z := nI f)) hH kX7_together qw_885 qw_886 qw_884 rfl [] rfl hl.1 (Nat.le_of_ble_eq_true rfl) ⟨(Nat.le_of_ble_eq_true rfl), (Nat.le_of_ble_eq_true rfl)⟩ dL_law_1072 ⟨by show cells + 2 + 0 ≤ 601024; omega, by show slots + 12 + 0 ≤ 7293034; omega⟩ (fun r H locs hp hS => ?_)
    obtain ⟨⟨v9, rfl⟩, hp⟩ := hp
    rcases hp with ⟨g1, hP8⟩ | ⟨g1, g2, hP8⟩ | ⟨f8, hf8, e8, g2, hr8, hP8⟩
    · skip
      exfalso; first | exact c1 g1 | exact g1 c1 | exact c2 g2 | exact g2 c2 | exact c3 g3 | exact g3 c3 | (have q9 := (nI_eq (by have := hI.1; have := hI.2.1; have := hI.2.2.1; omega) (by have := hI.1; have := hI.2.1; have := hI.2.2.1; omega)).mp e8; subst q9; first | exact c4 g4 | exact g4 c4)
    · skip
      exfalso; first | exact c1 g1 | exact g1 c1 | exact c2 g2 | exact g2 c2 | exact c3 g3 | exact g3 c3 | (have q9 := (nI_eq (by have := hI.1; have := hI.2.1; have := hI.2.2.1; omega) (by have := hI.1; have := hI.2.1; have := hI.2.2.1; omega)).mp e8; subst q9; first | exact c4 g4 | exact g4 c4)
    · skip
      have g1 : inR _ nf := ⟨f8, hf8, e8⟩
      have q9 := (nI_eq (by have := hI.1; have := hI.2.1; have := hI.2.2.1; omega) (by have := hI.1; have := hI.2.1; have := hI.2.2.1; omega)).mp e8
      subst q9
      have hv9 := Value.int.inj (Option.some.inj hr8)
      have ho9 : fo9 0 = v9.toInt64 := by rw [hv9]; exact ho8
      obtain ⟨w8, fr8, hH, hM8, hf8⟩ := hP8
      have hR8 := hR9.of (fun t ht => hf8 t (by unfold dm at ht; omega)) (fun _ _ => rfl)
      replace hO8 := (hf8 (20, 0, 0) (by decide)).trans hO8
      refine lv_istore (lv' := [(6, .int v9), (5, .int (nI 0)), (4, .int (nI i)), (3, .ref (al (20, 0, 0))), (2, .ref (al (10, 0, 0))), (1, .ref (al (0, 0, 0))), (0, .ref b)]) hx hb dL_law_1075 hl (by decide) rfl (fun ls hl => ?_)
      refine lv_aload_n hx hb dL_law_1077 rfl (lv_at hl 4 rfl) ?_
      refine lv_adr a10 ?_
      refine x_callV C hH hS (ci := 8) (t := (10, 0, 0)) hM8.1 rfl rfl (m_thrown l (E := E) (base := base) hM8 ) hH kX7_thrown qw_756 qw_757 qw_755 rfl [] rfl hl.1 (Nat.le_of_ble_eq_true rfl) ⟨(Nat.le_of_ble_eq_true rfl), (Nat.le_of_ble_eq_true rfl)⟩ dL_law_1078 ⟨by show cells + 2 + 0 ≤ 601024; omega, by show slots + 12 + 0 ≤ 7293034; omega⟩ (fun r H locs hp hS => ?_)
      obtain ⟨rfl, hH⟩ := hp
      refine lv_iload hx hb dL_law_1081 (lv_at hl 1 rfl) ?_
      refine lv_icmp_eq (tgt := 1088) hx hb dL_law_1083 (by decide) (fun c_5 => ?_) (fun c_5 => absurd (by decide +kernel) c_5)
      clear c_5
      refine lv_iload hx hb dL_law_1088 (lv_at hl 1 rfl) ?_
      refine lv_if_ne (tgt := 1105) hx hb dL_law_1090 (by decide) (fun c_6 => absurd (by decide +kernel) c_6) (fun c_6 => ?_)
      clear c_6
      refine lv_aload_n hx hb dL_law_1093 rfl (lv_at hl 3 rfl) ?_
      refine lv_iconst (v := nI 0) hx hb dL_law_1094 (by decide +kernel) ?_
      refine lv_adr2 a20 ?_
      refine x_lald C hH hO8 (j := 0) rfl (by omega) (by omega) dL_law_1095 ?_
      rw [ho9]
      refine lv_iload hx hb dL_law_1096 (lv_at hl 0 rfl) ?_
      refine lv_i2l hx hb dL_law_1098 rfl ?_
      refine lv_lcmp hx hb dL_law_1099 ?_
      refine lv_re (y := nI 0) (lcv_self _) ?_
      refine lv_if_eq (tgt := 1105) hx hb dL_law_1100 (by decide) (fun c_7 => ?_) (fun c_7 => absurd (by decide +kernel) c_7)
      clear c_7
      refine lv_goto (tgt := 1307) hx hb dL_law_1105 (by decide) ?_
      refine W.widen (k := cells + 30) (n := slots + 700) (by show cells + 2 + 0 + 0 ≤ _; omega) (by show slots + 12 + 0 + 0 ≤ _; omega) ?_
      exact kk _ _ _ ⟨al9, w8, _, _, _, _, _, _, _, fr8, _, hH, hR8, hI, hM8, hO8, h09, a10.symm, a20.symm⟩ hS (lv_sub hl [2, 3, 4, 5, 6] rfl)

set_option maxHeartbeats 4000000 in
set_option maxRecDepth 100000 in
theorem op_file (l : Launch) (hfl : l.stackTraces = false) {p : Program} {e : Env} {s : State} {m : MethodId} {below : List Frame} {meth : Method} {c : Code} {ret9 : Option FieldType} {E : xE} {base b L : Nat} {xs : Nat → Int32} {Q : State → Prop} (C : XC p s m #[Value.ref b] meth c "DataroomLaw" cL_law 7 ret9 E base) (hXs : va_X b L xs s s.heap) (hbl : b < s.heap.size) (hbA : ¬ xA base b) {cells slots i : Nat} (hcs : cells + 30 ≤ 601024) (hss : slots + 700 ≤ 7293034) (hi : i + 6 ≤ L) (hL : L ≤ 3072)
    {al : Tg → Nat} {w : Tg → Option va_E} {nf np na nw : Nat} {sg : Nat → Nat → Nat → Int32} {rc : Nat → Bool} {th : Int32} {fr : Nat → Int32} {fo : Nat → Int64} (hR : RM E al w nf np na nw sg rc) (hI : INV nf np na nw sg rc) (hMM : MMf E al w th nf np na nw sg rc fr) (hO : w (20, 0, 0) = some (.inl (E.2.1 1, 1, .inr (.inl fo)))) {H : Heap} {locs : List Loc} {ls : Array Slot} (hH : xH E base al w H) (hS : va_S (xA base) s.heap H locs) (hl : lv_has ls 7 [(4, .int (nI i)), (3, .ref (al (20, 0, 0))), (2, .ref (al (10, 0, 0))), (1, .ref (al (0, 0, 0))), (0, .ref b)])
    (kk : ∀ (H : Heap) (locs : List Loc) (ls : Array Slot), SI E base (al (0, 0, 0)) (al (10, 0, 0)) (al (20, 0, 0)) H → va_S (xA base) s.heap H locs → lv_has ls 7 [(4, .int (nI i)), (3, .ref (al (20, 0, 0))), (2, .ref (al (10, 0, 0))), (1, .ref (al (0, 0, 0))), (0, .ref b)] → W p l e room_1 s m #[Value.ref b] below meth c H locs (cells + 30) (slots + 700) Q (F0 m 1307 ls [])) : W p l e room_1 s m #[Value.ref b] below meth c H locs cells slots Q (F0 m 128 ls []) := by
  have hx := C.hx
  have hb := C.hb
  refine lv_aload_n hx hb dL_law_128 rfl (lv_at hl 3 rfl) ?_
  refine lv_aload_n hx hb dL_law_129 rfl (lv_at hl 4 rfl) ?_
  refine lv_iload hx hb dL_law_130 (lv_at hl 0 rfl) ?_
  refine lv_iconst (v := nI 1) hx hb dL_law_132 (by decide +kernel) ?_
  refine lv_iadd hx hb dL_law_133 ?_
  refine lv_re (nI_add _ _) ?_
  refine va_sld C.hx C.hb hXs hbl hbA hS (vp_in_nI (by omega : i + 1 < L) (by omega)) dL_law_134 ?_
  rw [nI_clamp (by omega)]
  obtain ⟨x1, hx1⟩ : ∃ z9, z9 = xs (i + 1) := ⟨_, rfl⟩
  rw [← hx1]
  refine lv_aload_n hx hb dL_law_135 rfl (lv_at hl 1 rfl) ?_
  refine x_callH (k := 3) C hS (l_file l hfl (E := E) (base := base) hR hI hO (x := x1)) hH qw_109 qw_0 ⟨by decide +kernel, by decide +kernel, by decide +kernel⟩ qw_108 qw_107 rfl [] rfl hl.1 (Nat.le_of_ble_eq_true rfl) ⟨(Nat.le_of_ble_eq_true rfl), (Nat.le_of_ble_eq_true rfl)⟩ dL_law_136 ⟨by show cells + 3 ≤ 601024; omega, by show slots + 368 ≤ 7293034; omega⟩ (fun r H locs hp hS => ?_)
  rcases hp with ⟨rfl, c1, hH⟩ | ⟨rfl, c1, c2, hH⟩ | ⟨rfl, c1, c2, hP⟩
  · skip
    obtain ⟨al9, hal9⟩ : ∃ z : Tg → Nat, z = al := ⟨_, rfl⟩
    have hfa : ∀ t : Tg, 10 ≤ t.1 → al9 t = al t := fun t _ => by rw [hal9]
    have h09 : al9 (0, 0, 0) = al (0, 0, 0) := by rw [hal9]
    have hR9 := hR
    have hM9 := hMM
    have hO8 := hO
    rw [← hal9] at hH hR9 hM9
    have a10 := (hfa (10, 0, 0) (by decide)).symm
    have a20 := (hfa (20, 0, 0) (by decide)).symm
    refine lv_istore (lv' := [(5, .int (nI 1)), (4, .int (nI i)), (3, .ref (al (20, 0, 0))), (2, .ref (al (10, 0, 0))), (1, .ref (al (0, 0, 0))), (0, .ref b)]) hx hb dL_law_139 hl (by decide) rfl (fun ls hl => ?_)
    refine lv_aload_n hx hb dL_law_141 rfl (lv_at hl 3 rfl) ?_
    refine lv_aload_n hx hb dL_law_142 rfl (lv_at hl 5 rfl) ?_
    refine lv_iload hx hb dL_law_143 (lv_at hl 1 rfl) ?_
    refine lv_iconst (v := nI 1) hx hb dL_law_145 (by decide +kernel) ?_
    refine lv_iadd hx hb dL_law_146 ?_
    refine lv_re (nI_add _ _) ?_
    refine va_sld C.hx C.hb hXs hbl hbA hS (vp_in_nI (by omega : i + 1 < L) (by omega)) dL_law_147 ?_
    rw [nI_clamp (by omega)]
    rw [← hx1]
    refine lv_adr2 a10 ?_
    refine x_callV C hH hS (ci := 8) (t := (10, 0, 0)) hM9.1 rfl rfl (m_file l (E := E) (base := base) hM9 hI (x := x1)) hH kX7_file qw_760 qw_761 qw_759 rfl [] rfl hl.1 (Nat.le_of_ble_eq_true rfl) ⟨(Nat.le_of_ble_eq_true rfl), (Nat.le_of_ble_eq_true rfl)⟩ dL_law_148 ⟨by show cells + 3 + 0 ≤ 601024; omega, by show slots + 368 + 0 ≤ 7293034; omega⟩ (fun r H locs hp hS => ?_)
    obtain ⟨⟨v9, rfl⟩, hp⟩ := hp
    rcases hp with ⟨g1, hP8⟩ | ⟨g1, g2, hP8⟩ | ⟨g1, g2, hr8, hP8⟩
    · skip
      obtain ⟨w8, fr8, hH, hM8, hf8⟩ := hP8
      have hR8 := hR9.of (fun t ht => hf8 t (by unfold dm at ht; omega)) (fun _ _ => rfl)
      replace hO8 := (hf8 (20, 0, 0) (by decide)).trans hO8
      refine lv_istore (lv' := [(6, .int v9), (5, .int (nI 1)), (4, .int (nI i)), (3, .ref (al (20, 0, 0))), (2, .ref (al (10, 0, 0))), (1, .ref (al (0, 0, 0))), (0, .ref b)]) hx hb dL_law_151 hl (by decide) rfl (fun ls hl => ?_)
      refine lv_aload_n hx hb dL_law_153 rfl (lv_at hl 4 rfl) ?_
      refine lv_adr a10 ?_
      refine x_callV C hH hS (ci := 8) (t := (10, 0, 0)) hM8.1 rfl rfl (m_thrown l (E := E) (base := base) hM8 ) hH kX7_thrown qw_756 qw_757 qw_755 rfl [] rfl hl.1 (Nat.le_of_ble_eq_true rfl) ⟨(Nat.le_of_ble_eq_true rfl), (Nat.le_of_ble_eq_true rfl)⟩ dL_law_154 ⟨by show cells + 3 + 0 ≤ 601024; omega, by show slots + 368 + 0 ≤ 7293034; omega⟩ (fun r H locs hp hS => ?_)
      obtain ⟨rfl, hH⟩ := hp
      refine lv_iload hx hb dL_law_157 (lv_at hl 1 rfl) ?_
      refine lv_icmp_eq (tgt := 164) hx hb dL_law_159 (by decide) (fun c_1 => ?_) (fun c_1 => absurd (by decide +kernel) c_1)
      clear c_1
      refine lv_iload hx hb dL_law_164 (lv_at hl 1 rfl) ?_
      refine lv_if_ne (tgt := 181) hx hb dL_law_166 (by decide) (fun c_2 => ?_) (fun c_2 => absurd c_2 (by decide +kernel))
      clear c_2
      refine lv_goto (tgt := 1307) hx hb dL_law_181 (by decide) ?_
      refine W.widen (k := cells + 30) (n := slots + 700) (by show cells + 3 + 0 + 0 ≤ _; omega) (by show slots + 368 + 0 + 0 ≤ _; omega) ?_
      exact kk _ _ _ ⟨al9, w8, _, _, _, _, _, _, _, fr8, _, hH, hR8, hI, hM8, hO8, h09, a10.symm, a20.symm⟩ hS (lv_sub hl [2, 3, 4, 5, 6] rfl)
    · skip
      exfalso; first | exact c1 g1 | exact g1 c1 | exact c2 g2 | exact g2 c2 | exact c3 g3 | exact g3 c3 | (have q9 := (nI_eq (by have := hI.1; have := hI.2.1; have := hI.2.2.1; omega) (by have := hI.1; have := hI.2.1; have := hI.2.2.1; omega)).mp e8; subst q9; first | exact c4 g4 | exact g4 c4)
    · skip
      exfalso; first | exact c1 g1 | exact g1 c1 | exact c2 g2 | exact g2 c2 | exact c3 g3 | exact g3 c3 | (have q9 := (nI_eq (by have := hI.1; have := hI.2.1; have := hI.2.2.1; omega) (by have := hI.1; have := hI.2.1; have := hI.2.2.1; omega)).mp e8; subst q9; first | exact c4 g4 | exact g4 c4)
  · skip
    obtain ⟨al9, hal9⟩ : ∃ z : Tg → Nat, z = al := ⟨_, rfl⟩
    have hfa : ∀ t : Tg, 10 ≤ t.1 → al9 t = al t := fun t _ => by rw [hal9]
    have h09 : al9 (0, 0, 0) = al (0, 0, 0) := by rw [hal9]
    have hR9 := hR
    have hM9 := hMM
    have hO8 := hO
    rw [← hal9] at hH hR9 hM9
    have a10 := (hfa (10, 0, 0) (by decide)).symm
    have a20 := (hfa (20, 0, 0) (by decide)).symm
    refine lv_istore (lv' := [(5, .int (nI 2)), (4, .int (nI i)), (3, .ref (al (20, 0, 0))), (2, .ref (al (10, 0, 0))), (1, .ref (al (0, 0, 0))), (0, .ref b)]) hx hb dL_law_139 hl (by decide) rfl (fun ls hl => ?_)
    refine lv_aload_n hx hb dL_law_141 rfl (lv_at hl 3 rfl) ?_
    refine lv_aload_n hx hb dL_law_142 rfl (lv_at hl 5 rfl) ?_
    refine lv_iload hx hb dL_law_143 (lv_at hl 1 rfl) ?_
    refine lv_iconst (v := nI 1) hx hb dL_law_145 (by decide +kernel) ?_
    refine lv_iadd hx hb dL_law_146 ?_
    refine lv_re (nI_add _ _) ?_
    refine va_sld C.hx C.hb hXs hbl hbA hS (vp_in_nI (by omega : i + 1 < L) (by omega)) dL_law_147 ?_
    rw [nI_clamp (by omega)]
    rw [← hx1]
    refine lv_adr2 a10 ?_
    refine x_callV C hH hS (ci := 8) (t := (10, 0, 0)) hM9.1 rfl rfl (m_file l (E := E) (base := base) hM9 hI (x := x1)) hH kX7_file qw_760 qw_761 qw_759 rfl [] rfl hl.1 (Nat.le_of_ble_eq_true rfl) ⟨(Nat.le_of_ble_eq_true rfl), (Nat.le_of_ble_eq_true rfl)⟩ dL_law_148 ⟨by show cells + 3 + 0 ≤ 601024; omega, by show slots + 368 + 0 ≤ 7293034; omega⟩ (fun r H locs hp hS => ?_)
    obtain ⟨⟨v9, rfl⟩, hp⟩ := hp
    rcases hp with ⟨g1, hP8⟩ | ⟨g1, g2, hP8⟩ | ⟨g1, g2, hr8, hP8⟩
    · skip
      exfalso; first | exact c1 g1 | exact g1 c1 | exact c2 g2 | exact g2 c2 | exact c3 g3 | exact g3 c3 | (have q9 := (nI_eq (by have := hI.1; have := hI.2.1; have := hI.2.2.1; omega) (by have := hI.1; have := hI.2.1; have := hI.2.2.1; omega)).mp e8; subst q9; first | exact c4 g4 | exact g4 c4)
    · skip
      obtain ⟨w8, fr8, hH, hM8, hf8⟩ := hP8
      have hR8 := hR9.of (fun t ht => hf8 t (by unfold dm at ht; omega)) (fun _ _ => rfl)
      replace hO8 := (hf8 (20, 0, 0) (by decide)).trans hO8
      refine lv_istore (lv' := [(6, .int v9), (5, .int (nI 2)), (4, .int (nI i)), (3, .ref (al (20, 0, 0))), (2, .ref (al (10, 0, 0))), (1, .ref (al (0, 0, 0))), (0, .ref b)]) hx hb dL_law_151 hl (by decide) rfl (fun ls hl => ?_)
      refine lv_aload_n hx hb dL_law_153 rfl (lv_at hl 4 rfl) ?_
      refine lv_adr a10 ?_
      refine x_callV C hH hS (ci := 8) (t := (10, 0, 0)) hM8.1 rfl rfl (m_thrown l (E := E) (base := base) hM8 ) hH kX7_thrown qw_756 qw_757 qw_755 rfl [] rfl hl.1 (Nat.le_of_ble_eq_true rfl) ⟨(Nat.le_of_ble_eq_true rfl), (Nat.le_of_ble_eq_true rfl)⟩ dL_law_154 ⟨by show cells + 3 + 0 ≤ 601024; omega, by show slots + 368 + 0 ≤ 7293034; omega⟩ (fun r H locs hp hS => ?_)
      obtain ⟨rfl, hH⟩ := hp
      refine lv_iload hx hb dL_law_157 (lv_at hl 1 rfl) ?_
      refine lv_icmp_eq (tgt := 164) hx hb dL_law_159 (by decide) (fun c_3 => ?_) (fun c_3 => absurd (by decide +kernel) c_3)
      clear c_3
      refine lv_iload hx hb dL_law_164 (lv_at hl 1 rfl) ?_
      refine lv_if_ne (tgt := 181) hx hb dL_law_166 (by decide) (fun c_4 => ?_) (fun c_4 => absurd c_4 (by decide +kernel))
      clear c_4
      refine lv_goto (tgt := 1307) hx hb dL_law_181 (by decide) ?_
      refine W.widen (k := cells + 30) (n := slots + 700) (by show cells + 3 + 0 + 0 ≤ _; omega) (by show slots + 368 + 0 + 0 ≤ _; omega) ?_
      exact kk _ _ _ ⟨al9, w8, _, _, _, _, _, _, _, fr8, _, hH, hR8, hI, hM8, hO8, h09, a10.symm, a20.symm⟩ hS (lv_sub hl [2, 3, 4, 5, 6] rfl)
    · skip
      exfalso; first | exact c1 g1 | exact g1 c1 | exact c2 g2 | exact g2 c2 | exact c3 g3 | exact g3 c3 | (have q9 := (nI_eq (by have := hI.1; have := hI.2.1; have := hI.2.2.1; omega) (by have := hI.1; have := hI.2.1; have := hI.2.2.1; omega)).mp e8; subst q9; first | exact c4 g4 | exact g4 c4)
  · skip
    obtain ⟨al9, w9, fo9, hH, hR9, hO8, ho8, hfa, hfw, h09⟩ := hP
    have hM9 := hMM.mv (fun t ht => hfw t (by omega) (fun e => by rw [e] at ht; revert ht; simp)) (fun t ht => hfa t (by omega))
    have a10 := (hfa (10, 0, 0) (by decide)).symm
    have a20 := (hfa (20, 0, 0) (by decide)).symm
    refine lv_istore (lv' := [(5, .int (nI 0)), (4, .int (nI i)), (3, .ref (al (20, 0, 0))), (2, .ref (al (10, 0, 0))), (1, .ref (al (0, 0, 0))), (0, .ref b)]) hx hb dL_law_139 hl (by decide) rfl (fun ls hl => ?_)
    refine lv_aload_n hx hb dL_law_141 rfl (lv_at hl 3 rfl) ?_
    refine lv_aload_n hx hb dL_law_142 rfl (lv_at hl 5 rfl) ?_
    refine lv_iload hx hb dL_law_143 (lv_at hl 1 rfl) ?_
    refine lv_iconst (v := nI 1) hx hb dL_law_145 (by decide +kernel) ?_
    refine lv_iadd hx hb dL_law_146 ?_
    refine lv_re (nI_add _ _) ?_
    refine va_sld C.hx C.hb hXs hbl hbA hS (vp_in_nI (by omega : i + 1 < L) (by omega)) dL_law_147 ?_
    rw [nI_clamp (by omega)]
    rw [← hx1]
    refine lv_adr2 a10 ?_
    refine x_callV C hH hS (ci := 8) (t := (10, 0, 0)) hM9.1 rfl rfl (m_file l (E := E) (base := base) hM9 hI (x := x1)) hH kX7_file qw_760 qw_761 qw_759 rfl [] rfl hl.1 (Nat.le_of_ble_eq_true rfl) ⟨(Nat.le_of_ble_eq_true rfl), (Nat.le_of_ble_eq_true rfl)⟩ dL_law_148 ⟨by show cells + 3 + 0 ≤ 601024; omega, by show slots + 368 + 0 ≤ 7293034; omega⟩ (fun r H locs hp hS => ?_)
    obtain ⟨⟨v9, rfl⟩, hp⟩ := hp
    rcases hp with ⟨g1, hP8⟩ | ⟨g1, g2, hP8⟩ | ⟨g1, g2, hr8, hP8⟩
    · skip
      exfalso; first | exact c1 g1 | exact g1 c1 | exact c2 g2 | exact g2 c2 | exact c3 g3 | exact g3 c3 | (have q9 := (nI_eq (by have := hI.1; have := hI.2.1; have := hI.2.2.1; omega) (by have := hI.1; have := hI.2.1; have := hI.2.2.1; omega)).mp e8; subst q9; first | exact c4 g4 | exact g4 c4)
    · skip
      exfalso; first | exact c1 g1 | exact g1 c1 | exact c2 g2 | exact g2 c2 | exact c3 g3 | exact g3 c3 | (have q9 := (nI_eq (by have := hI.1; have := hI.2.1; have := hI.2.2.1; omega) (by have := hI.1; have := hI.2.1; have := hI.2.2.1; omega)).mp e8; subst q9; first | exact c4 g4 | exact g4 c4)
    · skip
      have hv9 := Value.int.inj (Option.some.inj hr8)
      have ho9 : fo9 0 = v9.toInt64 := by rw [hv9]; exact ho8
      obtain ⟨w8, fr8, hH, hM8, hf8⟩ := hP8
      have hR8 := hR9.of (fun t ht => hf8 t (by unfold dm at ht; omega)) (fun _ _ => rfl)
      replace hO8 := (hf8 (20, 0, 0) (by decide)).trans hO8
      refine lv_istore (lv' := [(6, .int v9), (5, .int (nI 0)), (4, .int (nI i)), (3, .ref (al (20, 0, 0))), (2, .ref (al (10, 0, 0))), (1, .ref (al (0, 0, 0))), (0, .ref b)]) hx hb dL_law_151 hl (by decide) rfl (fun ls hl => ?_)
      refine lv_aload_n hx hb dL_law_153 rfl (lv_at hl 4 rfl) ?_
      refine lv_adr a10 ?_
      refine x_callV C hH hS (ci := 8) (t := (10, 0, 0)) hM8.1 rfl rfl (m_thrown l (E := E) (base := base) hM8 ) hH kX7_thrown qw_756 qw_757 qw_755 rfl [] rfl hl.1 (Nat.le_of_ble_eq_true rfl) ⟨(Nat.le_of_ble_eq_true rfl), (Nat.le_of_ble_eq_true rfl)⟩ dL_law_154 ⟨by show cells + 3 + 0 ≤ 601024; omega, by show slots + 368 + 0 ≤ 7293034; omega⟩ (fun r H locs hp hS => ?_)
      obtain ⟨rfl, hH⟩ := hp
      refine lv_iload hx hb dL_law_157 (lv_at hl 1 rfl) ?_
      refine lv_icmp_eq (tgt := 164) hx hb dL_law_159 (by decide) (fun c_5 => ?_) (fun c_5 => absurd (by decide +kernel) c_5)
      clear c_5
      refine lv_iload hx hb dL_law_164 (lv_at hl 1 rfl) ?_
      refine lv_if_ne (tgt := 181) hx hb dL_law_166 (by decide) (fun c_6 => absurd (by decide +kernel) c_6) (fun c_6 => ?_)
      clear c_6
      refine lv_aload_n hx hb dL_law_169 rfl (lv_at hl 3 rfl) ?_
      refine lv_iconst (v := nI 0) hx hb dL_law_170 (by decide +kernel) ?_
      refine lv_adr2 a20 ?_
      refine x_lald C hH hO8 (j := 0) rfl (by omega) (by omega) dL_law_171 ?_
      rw [ho9]
      refine lv_iload hx hb dL_law_172 (lv_at hl 0 rfl) ?_
      refine lv_i2l hx hb dL_law_174 rfl ?_
      refine lv_lcmp hx hb dL_law_175 ?_
      refine lv_re (y := nI 0) (lcv_self _) ?_
      refine lv_if_eq (tgt := 181) hx hb dL_law_176 (by decide) (fun c_7 => ?_) (fun c_7 => absurd (by decide +kernel) c_7)
      clear c_7
      refine lv_goto (tgt := 1307) hx hb dL_law_181 (by decide) ?_
      refine W.widen (k := cells + 30) (n := slots + 700) (by show cells + 3 + 0 + 0 ≤ _; omega) (by show slots + 368 + 0 + 0 ≤ _; omega) ?_
      exact kk _ _ _ ⟨al9, w8, _, _, _, _, _, _, _, fr8, _, hH, hR8, INV_file hI c2, hM8, hO8, h09, a10.symm, a20.symm⟩ hS (lv_sub hl [2, 3, 4, 5, 6] rfl)

set_option maxHeartbeats 4000000 in
set_option maxRecDepth 100000 in
theorem op_party (l : Launch) (hfl : l.stackTraces = false) {p : Program} {e : Env} {s : State} {m : MethodId} {below : List Frame} {meth : Method} {c : Code} {ret9 : Option FieldType} {E : xE} {base b L : Nat} {xs : Nat → Int32} {Q : State → Prop} (C : XC p s m #[Value.ref b] meth c "DataroomLaw" cL_law 7 ret9 E base) (hXs : va_X b L xs s s.heap) (hbl : b < s.heap.size) (hbA : ¬ xA base b) {cells slots i : Nat} (hcs : cells + 30 ≤ 601024) (hss : slots + 700 ≤ 7293034) (hi : i + 6 ≤ L) (hL : L ≤ 3072)
    {al : Tg → Nat} {w : Tg → Option va_E} {nf np na nw : Nat} {sg : Nat → Nat → Nat → Int32} {rc : Nat → Bool} {th : Int32} {fr : Nat → Int32} {fo : Nat → Int64} (hR : RM E al w nf np na nw sg rc) (hI : INV nf np na nw sg rc) (hMM : MMf E al w th nf np na nw sg rc fr) (hO : w (20, 0, 0) = some (.inl (E.2.1 1, 1, .inr (.inl fo)))) {H : Heap} {locs : List Loc} {ls : Array Slot} (hH : xH E base al w H) (hS : va_S (xA base) s.heap H locs) (hl : lv_has ls 7 [(4, .int (nI i)), (3, .ref (al (20, 0, 0))), (2, .ref (al (10, 0, 0))), (1, .ref (al (0, 0, 0))), (0, .ref b)])
    (kk : ∀ (H : Heap) (locs : List Loc) (ls : Array Slot), SI E base (al (0, 0, 0)) (al (10, 0, 0)) (al (20, 0, 0)) H → va_S (xA base) s.heap H locs → lv_has ls 7 [(4, .int (nI i)), (3, .ref (al (20, 0, 0))), (2, .ref (al (10, 0, 0))), (1, .ref (al (0, 0, 0))), (0, .ref b)] → W p l e room_1 s m #[Value.ref b] below meth c H locs (cells + 30) (slots + 700) Q (F0 m 1307 ls [])) : W p l e room_1 s m #[Value.ref b] below meth c H locs cells slots Q (F0 m 252 ls []) := by
  have hx := C.hx
  have hb := C.hb
  refine lv_aload_n hx hb dL_law_252 rfl (lv_at hl 3 rfl) ?_
  refine lv_aload_n hx hb dL_law_253 rfl (lv_at hl 4 rfl) ?_
  refine lv_iload hx hb dL_law_254 (lv_at hl 0 rfl) ?_
  refine lv_iconst (v := nI 1) hx hb dL_law_256 (by decide +kernel) ?_
  refine lv_iadd hx hb dL_law_257 ?_
  refine lv_re (nI_add _ _) ?_
  refine va_sld C.hx C.hb hXs hbl hbA hS (vp_in_nI (by omega : i + 1 < L) (by omega)) dL_law_258 ?_
  rw [nI_clamp (by omega)]
  obtain ⟨x1, hx1⟩ : ∃ z9, z9 = xs (i + 1) := ⟨_, rfl⟩
  rw [← hx1]
  refine lv_aload_n hx hb dL_law_259 rfl (lv_at hl 1 rfl) ?_
  refine x_callH (k := 3) C hS (l_party l hfl (E := E) (base := base) hR hI hO (x := x1)) hH qw_366 qw_0 ⟨by decide +kernel, by decide +kernel, by decide +kernel⟩ qw_365 qw_364 rfl [] rfl hl.1 (Nat.le_of_ble_eq_true rfl) ⟨(Nat.le_of_ble_eq_true rfl), (Nat.le_of_ble_eq_true rfl)⟩ dL_law_260 ⟨by show cells + 22 ≤ 601024; omega, by show slots + 544 ≤ 7293034; omega⟩ (fun r H locs hp hS => ?_)
  rcases hp with ⟨rfl, c1, hH⟩ | ⟨rfl, c1, c2, hH⟩ | ⟨rfl, c1, c2, hP⟩
  · skip
    obtain ⟨al9, hal9⟩ : ∃ z : Tg → Nat, z = al := ⟨_, rfl⟩
    have hfa : ∀ t : Tg, 10 ≤ t.1 → al9 t = al t := fun t _ => by rw [hal9]
    have h09 : al9 (0, 0, 0) = al (0, 0, 0) := by rw [hal9]
    have hR9 := hR
    have hM9 := hMM
    have hO8 := hO
    rw [← hal9] at hH hR9 hM9
    have a10 := (hfa (10, 0, 0) (by decide)).symm
    have a20 := (hfa (20, 0, 0) (by decide)).symm
    refine lv_istore (lv' := [(5, .int (nI 1)), (4, .int (nI i)), (3, .ref (al (20, 0, 0))), (2, .ref (al (10, 0, 0))), (1, .ref (al (0, 0, 0))), (0, .ref b)]) hx hb dL_law_263 hl (by decide) rfl (fun ls hl => ?_)
    refine lv_aload_n hx hb dL_law_265 rfl (lv_at hl 3 rfl) ?_
    refine lv_aload_n hx hb dL_law_266 rfl (lv_at hl 5 rfl) ?_
    refine lv_iload hx hb dL_law_267 (lv_at hl 1 rfl) ?_
    refine lv_iconst (v := nI 1) hx hb dL_law_269 (by decide +kernel) ?_
    refine lv_iadd hx hb dL_law_270 ?_
    refine lv_re (nI_add _ _) ?_
    refine va_sld C.hx C.hb hXs hbl hbA hS (vp_in_nI (by omega : i + 1 < L) (by omega)) dL_law_271 ?_
    rw [nI_clamp (by omega)]
    rw [← hx1]
    refine lv_adr2 a10 ?_
    refine x_callV C hH hS (ci := 8) (t := (10, 0, 0)) hM9.1 rfl rfl (m_party l (E := E) (base := base) hM9 hI (x := x1)) hH kX7_party qw_783 qw_784 qw_782 rfl [] rfl hl.1 (Nat.le_of_ble_eq_true rfl) ⟨(Nat.le_of_ble_eq_true rfl), (Nat.le_of_ble_eq_true rfl)⟩ dL_law_272 ⟨by show cells + 22 + 0 ≤ 601024; omega, by show slots + 544 + 0 ≤ 7293034; omega⟩ (fun r H locs hp hS => ?_)
    obtain ⟨⟨v9, rfl⟩, hp⟩ := hp
    rcases hp with ⟨g1, hP8⟩ | ⟨g1, g2, hP8⟩ | ⟨g1, g2, hr8, hP8⟩
    · skip
      obtain ⟨w8, fr8, hH, hM8, hf8⟩ := hP8
      have hR8 := hR9.of (fun t ht => hf8 t (by unfold dm at ht; omega)) (fun _ _ => rfl)
      replace hO8 := (hf8 (20, 0, 0) (by decide)).trans hO8
      refine lv_istore (lv' := [(6, .int v9), (5, .int (nI 1)), (4, .int (nI i)), (3, .ref (al (20, 0, 0))), (2, .ref (al (10, 0, 0))), (1, .ref (al (0, 0, 0))), (0, .ref b)]) hx hb dL_law_275 hl (by decide) rfl (fun ls hl => ?_)
      refine lv_aload_n hx hb dL_law_277 rfl (lv_at hl 4 rfl) ?_
      refine lv_adr a10 ?_
      refine x_callV C hH hS (ci := 8) (t := (10, 0, 0)) hM8.1 rfl rfl (m_thrown l (E := E) (base := base) hM8 ) hH kX7_thrown qw_756 qw_757 qw_755 rfl [] rfl hl.1 (Nat.le_of_ble_eq_true rfl) ⟨(Nat.le_of_ble_eq_true rfl), (Nat.le_of_ble_eq_true rfl)⟩ dL_law_278 ⟨by show cells + 22 + 0 ≤ 601024; omega, by show slots + 544 + 0 ≤ 7293034; omega⟩ (fun r H locs hp hS => ?_)
      obtain ⟨rfl, hH⟩ := hp
      refine lv_iload hx hb dL_law_281 (lv_at hl 1 rfl) ?_
      refine lv_icmp_eq (tgt := 288) hx hb dL_law_283 (by decide) (fun c_1 => ?_) (fun c_1 => absurd (by decide +kernel) c_1)
      clear c_1
      refine lv_iload hx hb dL_law_288 (lv_at hl 1 rfl) ?_
      refine lv_if_ne (tgt := 305) hx hb dL_law_290 (by decide) (fun c_2 => ?_) (fun c_2 => absurd c_2 (by decide +kernel))
      clear c_2
      refine lv_goto (tgt := 1307) hx hb dL_law_305 (by decide) ?_
      refine W.widen (k := cells + 30) (n := slots + 700) (by show cells + 22 + 0 + 0 ≤ _; omega) (by show slots + 544 + 0 + 0 ≤ _; omega) ?_
      exact kk _ _ _ ⟨al9, w8, _, _, _, _, _, _, _, fr8, _, hH, hR8, hI, hM8, hO8, h09, a10.symm, a20.symm⟩ hS (lv_sub hl [2, 3, 4, 5, 6] rfl)
    · skip
      exfalso; first | exact c1 g1 | exact g1 c1 | exact c2 g2 | exact g2 c2 | exact c3 g3 | exact g3 c3 | (have q9 := (nI_eq (by have := hI.1; have := hI.2.1; have := hI.2.2.1; omega) (by have := hI.1; have := hI.2.1; have := hI.2.2.1; omega)).mp e8; subst q9; first | exact c4 g4 | exact g4 c4)
    · skip
      exfalso; first | exact c1 g1 | exact g1 c1 | exact c2 g2 | exact g2 c2 | exact c3 g3 | exact g3 c3 | (have q9 := (nI_eq (by have := hI.1; have := hI.2.1; have := hI.2.2.1; omega) (by have := hI.1; have := hI.2.1; have := hI.2.2.1; omega)).mp e8; subst q9; first | exact c4 g4 | exact g4 c4)
  · skip
    obtain ⟨al9, hal9⟩ : ∃ z : Tg → Nat, z = al := ⟨_, rfl⟩
    have hfa : ∀ t : Tg, 10 ≤ t.1 → al9 t = al t := fun t _ => by rw [hal9]
    have h09 : al9 (0, 0, 0) = al (0, 0, 0) := by rw [hal9]
    have hR9 := hR
    have hM9 := hMM
    have hO8 := hO
    rw [← hal9] at hH hR9 hM9
    have a10 := (hfa (10, 0, 0) (by decide)).symm
    have a20 := (hfa (20, 0, 0) (by decide)).symm
    refine lv_istore (lv' := [(5, .int (nI 2)), (4, .int (nI i)), (3, .ref (al (20, 0, 0))), (2, .ref (al (10, 0, 0))), (1, .ref (al (0, 0, 0))), (0, .ref b)]) hx hb dL_law_263 hl (by decide) rfl (fun ls hl => ?_)
    refine lv_aload_n hx hb dL_law_265 rfl (lv_at hl 3 rfl) ?_
    refine lv_aload_n hx hb dL_law_266 rfl (lv_at hl 5 rfl) ?_
    refine lv_iload hx hb dL_law_267 (lv_at hl 1 rfl) ?_
    refine lv_iconst (v := nI 1) hx hb dL_law_269 (by decide +kernel) ?_
    refine lv_iadd hx hb dL_law_270 ?_
    refine lv_re (nI_add _ _) ?_
    refine va_sld C.hx C.hb hXs hbl hbA hS (vp_in_nI (by omega : i + 1 < L) (by omega)) dL_law_271 ?_
    rw [nI_clamp (by omega)]
    rw [← hx1]
    refine lv_adr2 a10 ?_
    refine x_callV C hH hS (ci := 8) (t := (10, 0, 0)) hM9.1 rfl rfl (m_party l (E := E) (base := base) hM9 hI (x := x1)) hH kX7_party qw_783 qw_784 qw_782 rfl [] rfl hl.1 (Nat.le_of_ble_eq_true rfl) ⟨(Nat.le_of_ble_eq_true rfl), (Nat.le_of_ble_eq_true rfl)⟩ dL_law_272 ⟨by show cells + 22 + 0 ≤ 601024; omega, by show slots + 544 + 0 ≤ 7293034; omega⟩ (fun r H locs hp hS => ?_)
    obtain ⟨⟨v9, rfl⟩, hp⟩ := hp
    rcases hp with ⟨g1, hP8⟩ | ⟨g1, g2, hP8⟩ | ⟨g1, g2, hr8, hP8⟩
    · skip
      exfalso; first | exact c1 g1 | exact g1 c1 | exact c2 g2 | exact g2 c2 | exact c3 g3 | exact g3 c3 | (have q9 := (nI_eq (by have := hI.1; have := hI.2.1; have := hI.2.2.1; omega) (by have := hI.1; have := hI.2.1; have := hI.2.2.1; omega)).mp e8; subst q9; first | exact c4 g4 | exact g4 c4)
    · skip
      obtain ⟨w8, fr8, hH, hM8, hf8⟩ := hP8
      have hR8 := hR9.of (fun t ht => hf8 t (by unfold dm at ht; omega)) (fun _ _ => rfl)
      replace hO8 := (hf8 (20, 0, 0) (by decide)).trans hO8
      refine lv_istore (lv' := [(6, .int v9), (5, .int (nI 2)), (4, .int (nI i)), (3, .ref (al (20, 0, 0))), (2, .ref (al (10, 0, 0))), (1, .ref (al (0, 0, 0))), (0, .ref b)]) hx hb dL_law_275 hl (by decide) rfl (fun ls hl => ?_)
      refine lv_aload_n hx hb dL_law_277 rfl (lv_at hl 4 rfl) ?_
      refine lv_adr a10 ?_
      refine x_callV C hH hS (ci := 8) (t := (10, 0, 0)) hM8.1 rfl rfl (m_thrown l (E := E) (base := base) hM8 ) hH kX7_thrown qw_756 qw_757 qw_755 rfl [] rfl hl.1 (Nat.le_of_ble_eq_true rfl) ⟨(Nat.le_of_ble_eq_true rfl), (Nat.le_of_ble_eq_true rfl)⟩ dL_law_278 ⟨by show cells + 22 + 0 ≤ 601024; omega, by show slots + 544 + 0 ≤ 7293034; omega⟩ (fun r H locs hp hS => ?_)
      obtain ⟨rfl, hH⟩ := hp
      refine lv_iload hx hb dL_law_281 (lv_at hl 1 rfl) ?_
      refine lv_icmp_eq (tgt := 288) hx hb dL_law_283 (by decide) (fun c_3 => ?_) (fun c_3 => absurd (by decide +kernel) c_3)
      clear c_3
      refine lv_iload hx hb dL_law_288 (lv_at hl 1 rfl) ?_
      refine lv_if_ne (tgt := 305) hx hb dL_law_290 (by decide) (fun c_4 => ?_) (fun c_4 => absurd c_4 (by decide +kernel))
      clear c_4
      refine lv_goto (tgt := 1307) hx hb dL_law_305 (by decide) ?_
      refine W.widen (k := cells + 30) (n := slots + 700) (by show cells + 22 + 0 + 0 ≤ _; omega) (by show slots + 544 + 0 + 0 ≤ _; omega) ?_
      exact kk _ _ _ ⟨al9, w8, _, _, _, _, _, _, _, fr8, _, hH, hR8, hI, hM8, hO8, h09, a10.symm, a20.symm⟩ hS (lv_sub hl [2, 3, 4, 5, 6] rfl)
    · skip
      exfalso; first | exact c1 g1 | exact g1 c1 | exact c2 g2 | exact g2 c2 | exact c3 g3 | exact g3 c3 | (have q9 := (nI_eq (by have := hI.1; have := hI.2.1; have := hI.2.2.1; omega) (by have := hI.1; have := hI.2.1; have := hI.2.2.1; omega)).mp e8; subst q9; first | exact c4 g4 | exact g4 c4)
  · skip
    obtain ⟨al9, w9, fo9, hH, hR9, hO8, ho8, hfa, hfw, h09⟩ := hP
    have hM9 := hMM.mv (fun t ht => hfw t (by omega) (fun e => by rw [e] at ht; revert ht; simp)) (fun t ht => hfa t (by omega))
    have a10 := (hfa (10, 0, 0) (by decide)).symm
    have a20 := (hfa (20, 0, 0) (by decide)).symm
    refine lv_istore (lv' := [(5, .int (nI 0)), (4, .int (nI i)), (3, .ref (al (20, 0, 0))), (2, .ref (al (10, 0, 0))), (1, .ref (al (0, 0, 0))), (0, .ref b)]) hx hb dL_law_263 hl (by decide) rfl (fun ls hl => ?_)
    refine lv_aload_n hx hb dL_law_265 rfl (lv_at hl 3 rfl) ?_
    refine lv_aload_n hx hb dL_law_266 rfl (lv_at hl 5 rfl) ?_
    refine lv_iload hx hb dL_law_267 (lv_at hl 1 rfl) ?_
    refine lv_iconst (v := nI 1) hx hb dL_law_269 (by decide +kernel) ?_
    refine lv_iadd hx hb dL_law_270 ?_
    refine lv_re (nI_add _ _) ?_
    refine va_sld C.hx C.hb hXs hbl hbA hS (vp_in_nI (by omega : i + 1 < L) (by omega)) dL_law_271 ?_
    rw [nI_clamp (by omega)]
    rw [← hx1]
    refine lv_adr2 a10 ?_
    refine x_callV C hH hS (ci := 8) (t := (10, 0, 0)) hM9.1 rfl rfl (m_party l (E := E) (base := base) hM9 hI (x := x1)) hH kX7_party qw_783 qw_784 qw_782 rfl [] rfl hl.1 (Nat.le_of_ble_eq_true rfl) ⟨(Nat.le_of_ble_eq_true rfl), (Nat.le_of_ble_eq_true rfl)⟩ dL_law_272 ⟨by show cells + 22 + 0 ≤ 601024; omega, by show slots + 544 + 0 ≤ 7293034; omega⟩ (fun r H locs hp hS => ?_)
    obtain ⟨⟨v9, rfl⟩, hp⟩ := hp
    rcases hp with ⟨g1, hP8⟩ | ⟨g1, g2, hP8⟩ | ⟨g1, g2, hr8, hP8⟩
    · skip
      exfalso; first | exact c1 g1 | exact g1 c1 | exact c2 g2 | exact g2 c2 | exact c3 g3 | exact g3 c3 | (have q9 := (nI_eq (by have := hI.1; have := hI.2.1; have := hI.2.2.1; omega) (by have := hI.1; have := hI.2.1; have := hI.2.2.1; omega)).mp e8; subst q9; first | exact c4 g4 | exact g4 c4)
    · skip
      exfalso; first | exact c1 g1 | exact g1 c1 | exact c2 g2 | exact g2 c2 | exact c3 g3 | exact g3 c3 | (have q9 := (nI_eq (by have := hI.1; have := hI.2.1; have := hI.2.2.1; omega) (by have := hI.1; have := hI.2.1; have := hI.2.2.1; omega)).mp e8; subst q9; first | exact c4 g4 | exact g4 c4)
    · skip
      have hv9 := Value.int.inj (Option.some.inj hr8)
      have ho9 : fo9 0 = v9.toInt64 := by rw [hv9]; exact ho8
      obtain ⟨w8, fr8, hH, hM8, hf8⟩ := hP8
      have hR8 := hR9.of (fun t ht => hf8 t (by unfold dm at ht; omega)) (fun _ _ => rfl)
      replace hO8 := (hf8 (20, 0, 0) (by decide)).trans hO8
      refine lv_istore (lv' := [(6, .int v9), (5, .int (nI 0)), (4, .int (nI i)), (3, .ref (al (20, 0, 0))), (2, .ref (al (10, 0, 0))), (1, .ref (al (0, 0, 0))), (0, .ref b)]) hx hb dL_law_275 hl (by decide) rfl (fun ls hl => ?_)
      refine lv_aload_n hx hb dL_law_277 rfl (lv_at hl 4 rfl) ?_
      refine lv_adr a10 ?_
      refine x_callV C hH hS (ci := 8) (t := (10, 0, 0)) hM8.1 rfl rfl (m_thrown l (E := E) (base := base) hM8 ) hH kX7_thrown qw_756 qw_757 qw_755 rfl [] rfl hl.1 (Nat.le_of_ble_eq_true rfl) ⟨(Nat.le_of_ble_eq_true rfl), (Nat.le_of_ble_eq_true rfl)⟩ dL_law_278 ⟨by show cells + 22 + 0 ≤ 601024; omega, by show slots + 544 + 0 ≤ 7293034; omega⟩ (fun r H locs hp hS => ?_)
      obtain ⟨rfl, hH⟩ := hp
      refine lv_iload hx hb dL_law_281 (lv_at hl 1 rfl) ?_
      refine lv_icmp_eq (tgt := 288) hx hb dL_law_283 (by decide) (fun c_5 => ?_) (fun c_5 => absurd (by decide +kernel) c_5)
      clear c_5
      refine lv_iload hx hb dL_law_288 (lv_at hl 1 rfl) ?_
      refine lv_if_ne (tgt := 305) hx hb dL_law_290 (by decide) (fun c_6 => absurd (by decide +kernel) c_6) (fun c_6 => ?_)
      clear c_6
      refine lv_aload_n hx hb dL_law_293 rfl (lv_at hl 3 rfl) ?_
      refine lv_iconst (v := nI 0) hx hb dL_law_294 (by decide +kernel) ?_
      refine lv_adr2 a20 ?_
      refine x_lald C hH hO8 (j := 0) rfl (by omega) (by omega) dL_law_295 ?_
      rw [ho9]
      refine lv_iload hx hb dL_law_296 (lv_at hl 0 rfl) ?_
      refine lv_i2l hx hb dL_law_298 rfl ?_
      refine lv_lcmp hx hb dL_law_299 ?_
      refine lv_re (y := nI 0) (lcv_self _) ?_
      refine lv_if_eq (tgt := 305) hx hb dL_law_300 (by decide) (fun c_7 => ?_) (fun c_7 => absurd (by decide +kernel) c_7)
      clear c_7
      refine lv_goto (tgt := 1307) hx hb dL_law_305 (by decide) ?_
      refine W.widen (k := cells + 30) (n := slots + 700) (by show cells + 22 + 0 + 0 ≤ _; omega) (by show slots + 544 + 0 + 0 ≤ _; omega) ?_
      exact kk _ _ _ ⟨al9, w8, _, _, _, _, _, _, _, fr8, _, hH, hR8, INV_party hI c2, hM8, hO8, h09, a10.symm, a20.symm⟩ hS (lv_sub hl [2, 3, 4, 5, 6] rfl)

set_option maxHeartbeats 4000000 in
set_option maxRecDepth 100000 in
theorem op_pass (l : Launch) (hfl : l.stackTraces = false) {p : Program} {e : Env} {s : State} {m : MethodId} {below : List Frame} {meth : Method} {c : Code} {ret9 : Option FieldType} {E : xE} {base b L : Nat} {xs : Nat → Int32} {Q : State → Prop} (C : XC p s m #[Value.ref b] meth c "DataroomLaw" cL_law 7 ret9 E base) (hXs : va_X b L xs s s.heap) (hbl : b < s.heap.size) (hbA : ¬ xA base b) {cells slots i : Nat} (hcs : cells + 30 ≤ 601024) (hss : slots + 700 ≤ 7293034) (hi : i + 6 ≤ L) (hL : L ≤ 3072)
    {al : Tg → Nat} {w : Tg → Option va_E} {nf np na nw : Nat} {sg : Nat → Nat → Nat → Int32} {rc : Nat → Bool} {th : Int32} {fr : Nat → Int32} {fo : Nat → Int64} (hR : RM E al w nf np na nw sg rc) (hI : INV nf np na nw sg rc) (hMM : MMf E al w th nf np na nw sg rc fr) (hO : w (20, 0, 0) = some (.inl (E.2.1 1, 1, .inr (.inl fo)))) {H : Heap} {locs : List Loc} {ls : Array Slot} (hH : xH E base al w H) (hS : va_S (xA base) s.heap H locs) (hl : lv_has ls 7 [(4, .int (nI i)), (3, .ref (al (20, 0, 0))), (2, .ref (al (10, 0, 0))), (1, .ref (al (0, 0, 0))), (0, .ref b)])
    (kk : ∀ (H : Heap) (locs : List Loc) (ls : Array Slot), SI E base (al (0, 0, 0)) (al (10, 0, 0)) (al (20, 0, 0)) H → va_S (xA base) s.heap H locs → lv_has ls 7 [(4, .int (nI i)), (3, .ref (al (20, 0, 0))), (2, .ref (al (10, 0, 0))), (1, .ref (al (0, 0, 0))), (0, .ref b)] → W p l e room_1 s m #[Value.ref b] below meth c H locs (cells + 30) (slots + 700) Q (F0 m 1307 ls [])) : W p l e room_1 s m #[Value.ref b] below meth c H locs cells slots Q (F0 m 576 ls []) := by
  have hx := C.hx
  have hb := C.hb
  refine lv_aload_n hx hb dL_law_576 rfl (lv_at hl 3 rfl) ?_
  refine lv_aload_n hx hb dL_law_577 rfl (lv_at hl 4 rfl) ?_
  refine lv_iload hx hb dL_law_578 (lv_at hl 0 rfl) ?_
  refine lv_iconst (v := nI 1) hx hb dL_law_580 (by decide +kernel) ?_
  refine lv_iadd hx hb dL_law_581 ?_
  refine lv_re (nI_add _ _) ?_
  refine va_sld C.hx C.hb hXs hbl hbA hS (vp_in_nI (by omega : i + 1 < L) (by omega)) dL_law_582 ?_
  rw [nI_clamp (by omega)]
  obtain ⟨x1, hx1⟩ : ∃ z9, z9 = xs (i + 1) := ⟨_, rfl⟩
  rw [← hx1]
  refine lv_aload_n hx hb dL_law_583 rfl (lv_at hl 1 rfl) ?_
  refine x_callH (k := 3) C hS (l_pass l hfl (E := E) (base := base) hR hI hO (x := x1)) hH qw_461 qw_0 ⟨by decide +kernel, by decide +kernel, by decide +kernel⟩ qw_460 qw_459 rfl [] rfl hl.1 (Nat.le_of_ble_eq_true rfl) ⟨(Nat.le_of_ble_eq_true rfl), (Nat.le_of_ble_eq_true rfl)⟩ dL_law_584 ⟨by show cells + 2 ≤ 601024; omega, by show slots + 12 ≤ 7293034; omega⟩ (fun r H locs hp hS => ?_)
  rcases hp with ⟨rfl, c1, hH⟩ | ⟨rfl, c1, c2, hH⟩ | ⟨rfl, k, rfl, c1, c3, hP⟩
  · skip
    obtain ⟨al9, hal9⟩ : ∃ z : Tg → Nat, z = al := ⟨_, rfl⟩
    have hfa : ∀ t : Tg, 10 ≤ t.1 → al9 t = al t := fun t _ => by rw [hal9]
    have h09 : al9 (0, 0, 0) = al (0, 0, 0) := by rw [hal9]
    have hR9 := hR
    have hM9 := hMM
    have hO8 := hO
    rw [← hal9] at hH hR9 hM9
    have a10 := (hfa (10, 0, 0) (by decide)).symm
    have a20 := (hfa (20, 0, 0) (by decide)).symm
    refine lv_istore (lv' := [(5, .int (nI 1)), (4, .int (nI i)), (3, .ref (al (20, 0, 0))), (2, .ref (al (10, 0, 0))), (1, .ref (al (0, 0, 0))), (0, .ref b)]) hx hb dL_law_587 hl (by decide) rfl (fun ls hl => ?_)
    refine lv_aload_n hx hb dL_law_589 rfl (lv_at hl 3 rfl) ?_
    refine lv_aload_n hx hb dL_law_590 rfl (lv_at hl 5 rfl) ?_
    refine lv_iload hx hb dL_law_591 (lv_at hl 1 rfl) ?_
    refine lv_iconst (v := nI 1) hx hb dL_law_593 (by decide +kernel) ?_
    refine lv_iadd hx hb dL_law_594 ?_
    refine lv_re (nI_add _ _) ?_
    refine va_sld C.hx C.hb hXs hbl hbA hS (vp_in_nI (by omega : i + 1 < L) (by omega)) dL_law_595 ?_
    rw [nI_clamp (by omega)]
    rw [← hx1]
    refine lv_adr2 a10 ?_
    refine x_callV C hH hS (ci := 8) (t := (10, 0, 0)) hM9.1 rfl rfl (m_pass l (E := E) (base := base) hM9 hI (x := x1)) hH kX7_pass qw_807 qw_808 qw_806 rfl [] rfl hl.1 (Nat.le_of_ble_eq_true rfl) ⟨(Nat.le_of_ble_eq_true rfl), (Nat.le_of_ble_eq_true rfl)⟩ dL_law_596 ⟨by show cells + 2 + 0 ≤ 601024; omega, by show slots + 12 + 0 ≤ 7293034; omega⟩ (fun r H locs hp hS => ?_)
    obtain ⟨⟨v9, rfl⟩, hp⟩ := hp
    rcases hp with ⟨g1, hP8⟩ | ⟨g1, g2, hP8⟩ | ⟨k8, e8, g1, g3, hr8, hP8⟩
    · skip
      obtain ⟨w8, fr8, hH, hM8, hf8⟩ := hP8
      have hR8 := hR9.of (fun t ht => hf8 t (by unfold dm at ht; omega)) (fun _ _ => rfl)
      replace hO8 := (hf8 (20, 0, 0) (by decide)).trans hO8
      refine lv_istore (lv' := [(6, .int v9), (5, .int (nI 1)), (4, .int (nI i)), (3, .ref (al (20, 0, 0))), (2, .ref (al (10, 0, 0))), (1, .ref (al (0, 0, 0))), (0, .ref b)]) hx hb dL_law_599 hl (by decide) rfl (fun ls hl => ?_)
      refine lv_aload_n hx hb dL_law_601 rfl (lv_at hl 4 rfl) ?_
      refine lv_adr a10 ?_
      refine x_callV C hH hS (ci := 8) (t := (10, 0, 0)) hM8.1 rfl rfl (m_thrown l (E := E) (base := base) hM8 ) hH kX7_thrown qw_756 qw_757 qw_755 rfl [] rfl hl.1 (Nat.le_of_ble_eq_true rfl) ⟨(Nat.le_of_ble_eq_true rfl), (Nat.le_of_ble_eq_true rfl)⟩ dL_law_602 ⟨by show cells + 2 + 0 ≤ 601024; omega, by show slots + 12 + 0 ≤ 7293034; omega⟩ (fun r H locs hp hS => ?_)
      obtain ⟨rfl, hH⟩ := hp
      refine lv_iload hx hb dL_law_605 (lv_at hl 1 rfl) ?_
      refine lv_icmp_eq (tgt := 612) hx hb dL_law_607 (by decide) (fun c_1 => ?_) (fun c_1 => absurd (by decide +kernel) c_1)
      clear c_1
      refine lv_iload hx hb dL_law_612 (lv_at hl 1 rfl) ?_
      refine lv_if_ne (tgt := 629) hx hb dL_law_614 (by decide) (fun c_2 => ?_) (fun c_2 => absurd c_2 (by decide +kernel))
      clear c_2
      refine lv_goto (tgt := 1307) hx hb dL_law_629 (by decide) ?_
      refine W.widen (k := cells + 30) (n := slots + 700) (by show cells + 2 + 0 + 0 ≤ _; omega) (by show slots + 12 + 0 + 0 ≤ _; omega) ?_
      exact kk _ _ _ ⟨al9, w8, _, _, _, _, _, _, _, fr8, _, hH, hR8, hI, hM8, hO8, h09, a10.symm, a20.symm⟩ hS (lv_sub hl [2, 3, 4, 5, 6] rfl)
    · skip
      exfalso; first | exact c1 g1 | exact g1 c1 | exact c2 g2 | exact g2 c2 | exact c3 g3 | exact g3 c3 | (have q9 := (nI_eq (by have := hI.1; have := hI.2.1; have := hI.2.2.1; omega) (by have := hI.1; have := hI.2.1; have := hI.2.2.1; omega)).mp e8; subst q9; first | exact c4 g4 | exact g4 c4)
    · skip
      have g2 : nI nw + nI k8 ≤ nI 5000 := by rw [nI_add]; exact nI_le g3 (by omega)
      rw [← e8] at g2
      exfalso; first | exact c1 g1 | exact g1 c1 | exact c2 g2 | exact g2 c2 | exact c3 g3 | exact g3 c3 | (have q9 := (nI_eq (by have := hI.1; have := hI.2.1; have := hI.2.2.1; omega) (by have := hI.1; have := hI.2.1; have := hI.2.2.1; omega)).mp e8; subst q9; first | exact c4 g4 | exact g4 c4)
  · skip
    obtain ⟨al9, hal9⟩ : ∃ z : Tg → Nat, z = al := ⟨_, rfl⟩
    have hfa : ∀ t : Tg, 10 ≤ t.1 → al9 t = al t := fun t _ => by rw [hal9]
    have h09 : al9 (0, 0, 0) = al (0, 0, 0) := by rw [hal9]
    have hR9 := hR
    have hM9 := hMM
    have hO8 := hO
    rw [← hal9] at hH hR9 hM9
    have a10 := (hfa (10, 0, 0) (by decide)).symm
    have a20 := (hfa (20, 0, 0) (by decide)).symm
    refine lv_istore (lv' := [(5, .int (nI 2)), (4, .int (nI i)), (3, .ref (al (20, 0, 0))), (2, .ref (al (10, 0, 0))), (1, .ref (al (0, 0, 0))), (0, .ref b)]) hx hb dL_law_587 hl (by decide) rfl (fun ls hl => ?_)
    refine lv_aload_n hx hb dL_law_589 rfl (lv_at hl 3 rfl) ?_
    refine lv_aload_n hx hb dL_law_590 rfl (lv_at hl 5 rfl) ?_
    refine lv_iload hx hb dL_law_591 (lv_at hl 1 rfl) ?_
    refine lv_iconst (v := nI 1) hx hb dL_law_593 (by decide +kernel) ?_
    refine lv_iadd hx hb dL_law_594 ?_
    refine lv_re (nI_add _ _) ?_
    refine va_sld C.hx C.hb hXs hbl hbA hS (vp_in_nI (by omega : i + 1 < L) (by omega)) dL_law_595 ?_
    rw [nI_clamp (by omega)]
    rw [← hx1]
    refine lv_adr2 a10 ?_
    refine x_callV C hH hS (ci := 8) (t := (10, 0, 0)) hM9.1 rfl rfl (m_pass l (E := E) (base := base) hM9 hI (x := x1)) hH kX7_pass qw_807 qw_808 qw_806 rfl [] rfl hl.1 (Nat.le_of_ble_eq_true rfl) ⟨(Nat.le_of_ble_eq_true rfl), (Nat.le_of_ble_eq_true rfl)⟩ dL_law_596 ⟨by show cells + 2 + 0 ≤ 601024; omega, by show slots + 12 + 0 ≤ 7293034; omega⟩ (fun r H locs hp hS => ?_)
    obtain ⟨⟨v9, rfl⟩, hp⟩ := hp
    rcases hp with ⟨g1, hP8⟩ | ⟨g1, g2, hP8⟩ | ⟨k8, e8, g1, g3, hr8, hP8⟩
    · skip
      exfalso; first | exact c1 g1 | exact g1 c1 | exact c2 g2 | exact g2 c2 | exact c3 g3 | exact g3 c3 | (have q9 := (nI_eq (by have := hI.1; have := hI.2.1; have := hI.2.2.1; omega) (by have := hI.1; have := hI.2.1; have := hI.2.2.1; omega)).mp e8; subst q9; first | exact c4 g4 | exact g4 c4)
    · skip
      obtain ⟨w8, fr8, hH, hM8, hf8⟩ := hP8
      have hR8 := hR9.of (fun t ht => hf8 t (by unfold dm at ht; omega)) (fun _ _ => rfl)
      replace hO8 := (hf8 (20, 0, 0) (by decide)).trans hO8
      refine lv_istore (lv' := [(6, .int v9), (5, .int (nI 2)), (4, .int (nI i)), (3, .ref (al (20, 0, 0))), (2, .ref (al (10, 0, 0))), (1, .ref (al (0, 0, 0))), (0, .ref b)]) hx hb dL_law_599 hl (by decide) rfl (fun ls hl => ?_)
      refine lv_aload_n hx hb dL_law_601 rfl (lv_at hl 4 rfl) ?_
      refine lv_adr a10 ?_
      refine x_callV C hH hS (ci := 8) (t := (10, 0, 0)) hM8.1 rfl rfl (m_thrown l (E := E) (base := base) hM8 ) hH kX7_thrown qw_756 qw_757 qw_755 rfl [] rfl hl.1 (Nat.le_of_ble_eq_true rfl) ⟨(Nat.le_of_ble_eq_true rfl), (Nat.le_of_ble_eq_true rfl)⟩ dL_law_602 ⟨by show cells + 2 + 0 ≤ 601024; omega, by show slots + 12 + 0 ≤ 7293034; omega⟩ (fun r H locs hp hS => ?_)
      obtain ⟨rfl, hH⟩ := hp
      refine lv_iload hx hb dL_law_605 (lv_at hl 1 rfl) ?_
      refine lv_icmp_eq (tgt := 612) hx hb dL_law_607 (by decide) (fun c_3 => ?_) (fun c_3 => absurd (by decide +kernel) c_3)
      clear c_3
      refine lv_iload hx hb dL_law_612 (lv_at hl 1 rfl) ?_
      refine lv_if_ne (tgt := 629) hx hb dL_law_614 (by decide) (fun c_4 => ?_) (fun c_4 => absurd c_4 (by decide +kernel))
      clear c_4
      refine lv_goto (tgt := 1307) hx hb dL_law_629 (by decide) ?_
      refine W.widen (k := cells + 30) (n := slots + 700) (by show cells + 2 + 0 + 0 ≤ _; omega) (by show slots + 12 + 0 + 0 ≤ _; omega) ?_
      exact kk _ _ _ ⟨al9, w8, _, _, _, _, _, _, _, fr8, _, hH, hR8, hI, hM8, hO8, h09, a10.symm, a20.symm⟩ hS (lv_sub hl [2, 3, 4, 5, 6] rfl)
    · skip
      have g2 : nI nw + nI k8 ≤ nI 5000 := by rw [nI_add]; exact nI_le g3 (by omega)
      rw [← e8] at g2
      exfalso; first | exact c1 g1 | exact g1 c1 | exact c2 g2 | exact g2 c2 | exact c3 g3 | exact g3 c3 | (have q9 := (nI_eq (by have := hI.1; have := hI.2.1; have := hI.2.2.1; omega) (by have := hI.1; have := hI.2.1; have := hI.2.2.1; omega)).mp e8; subst q9; first | exact c4 g4 | exact g4 c4)
  · skip
    have c2 : nI nw + nI k ≤ nI 5000 := by rw [nI_add]; exact nI_le c3 (by omega)
    obtain ⟨al9, w9, fo9, hH, hR9, hO8, ho8, hfa, hfw, h09⟩ := hP
    have hM9 := hMM.mv (fun t ht => hfw t (by omega) (fun e => by rw [e] at ht; revert ht; simp)) (fun t ht => hfa t (by omega))
    have a10 := (hfa (10, 0, 0) (by decide)).symm
    have a20 := (hfa (20, 0, 0) (by decide)).symm
    refine lv_istore (lv' := [(5, .int (nI 0)), (4, .int (nI i)), (3, .ref (al (20, 0, 0))), (2, .ref (al (10, 0, 0))), (1, .ref (al (0, 0, 0))), (0, .ref b)]) hx hb dL_law_587 hl (by decide) rfl (fun ls hl => ?_)
    refine lv_aload_n hx hb dL_law_589 rfl (lv_at hl 3 rfl) ?_
    refine lv_aload_n hx hb dL_law_590 rfl (lv_at hl 5 rfl) ?_
    refine lv_iload hx hb dL_law_591 (lv_at hl 1 rfl) ?_
    refine lv_iconst (v := nI 1) hx hb dL_law_593 (by decide +kernel) ?_
    refine lv_iadd hx hb dL_law_594 ?_
    refine lv_re (nI_add _ _) ?_
    refine va_sld C.hx C.hb hXs hbl hbA hS (vp_in_nI (by omega : i + 1 < L) (by omega)) dL_law_595 ?_
    rw [nI_clamp (by omega)]
    rw [← hx1]
    refine lv_adr2 a10 ?_
    refine x_callV C hH hS (ci := 8) (t := (10, 0, 0)) hM9.1 rfl rfl (m_pass l (E := E) (base := base) hM9 hI (x := nI k)) hH kX7_pass qw_807 qw_808 qw_806 rfl [] rfl hl.1 (Nat.le_of_ble_eq_true rfl) ⟨(Nat.le_of_ble_eq_true rfl), (Nat.le_of_ble_eq_true rfl)⟩ dL_law_596 ⟨by show cells + 2 + 0 ≤ 601024; omega, by show slots + 12 + 0 ≤ 7293034; omega⟩ (fun r H locs hp hS => ?_)
    obtain ⟨⟨v9, rfl⟩, hp⟩ := hp
    rcases hp with ⟨g1, hP8⟩ | ⟨g1, g2, hP8⟩ | ⟨k8, e8, g1, g3, hr8, hP8⟩
    · skip
      exfalso; first | exact c1 g1 | exact g1 c1 | exact c2 g2 | exact g2 c2 | exact c3 g3 | exact g3 c3 | (have q9 := (nI_eq (by have := hI.1; have := hI.2.1; have := hI.2.2.1; omega) (by have := hI.1; have := hI.2.1; have := hI.2.2.1; omega)).mp e8; subst q9; first | exact c4 g4 | exact g4 c4)
    · skip
      exfalso; first | exact c1 g1 | exact g1 c1 | exact c2 g2 | exact g2 c2 | exact c3 g3 | exact g3 c3 | (have q9 := (nI_eq (by have := hI.1; have := hI.2.1; have := hI.2.2.1; omega) (by have := hI.1; have := hI.2.1; have := hI.2.2.1; omega)).mp e8; subst q9; first | exact c4 g4 | exact g4 c4)
    · skip
      have g2 : nI nw + nI k8 ≤ nI 5000 := by rw [nI_add]; exact nI_le g3 (by omega)
      rw [← e8] at g2
      have q9 := (nI_eq (by omega) (by omega)).mp e8
      subst q9
      have hv9 := Value.int.inj (Option.some.inj hr8)
      have ho9 : fo9 0 = v9.toInt64 := by rw [hv9]; exact ho8
      obtain ⟨w8, fr8, hH, hM8, hf8⟩ := hP8
      have hR8 := hR9.of (fun t ht => hf8 t (by unfold dm at ht; omega)) (fun _ _ => rfl)
      replace hO8 := (hf8 (20, 0, 0) (by decide)).trans hO8
      refine lv_istore (lv' := [(6, .int v9), (5, .int (nI 0)), (4, .int (nI i)), (3, .ref (al (20, 0, 0))), (2, .ref (al (10, 0, 0))), (1, .ref (al (0, 0, 0))), (0, .ref b)]) hx hb dL_law_599 hl (by decide) rfl (fun ls hl => ?_)
      refine lv_aload_n hx hb dL_law_601 rfl (lv_at hl 4 rfl) ?_
      refine lv_adr a10 ?_
      refine x_callV C hH hS (ci := 8) (t := (10, 0, 0)) hM8.1 rfl rfl (m_thrown l (E := E) (base := base) hM8 ) hH kX7_thrown qw_756 qw_757 qw_755 rfl [] rfl hl.1 (Nat.le_of_ble_eq_true rfl) ⟨(Nat.le_of_ble_eq_true rfl), (Nat.le_of_ble_eq_true rfl)⟩ dL_law_602 ⟨by show cells + 2 + 0 ≤ 601024; omega, by show slots + 12 + 0 ≤ 7293034; omega⟩ (fun r H locs hp hS => ?_)
      obtain ⟨rfl, hH⟩ := hp
      refine lv_iload hx hb dL_law_605 (lv_at hl 1 rfl) ?_
      refine lv_icmp_eq (tgt := 612) hx hb dL_law_607 (by decide) (fun c_5 => ?_) (fun c_5 => absurd (by decide +kernel) c_5)
      clear c_5
      refine lv_iload hx hb dL_law_612 (lv_at hl 1 rfl) ?_
      refine lv_if_ne (tgt := 629) hx hb dL_law_614 (by decide) (fun c_6 => absurd (by decide +kernel) c_6) (fun c_6 => ?_)
      clear c_6
      refine lv_aload_n hx hb dL_law_617 rfl (lv_at hl 3 rfl) ?_
      refine lv_iconst (v := nI 0) hx hb dL_law_618 (by decide +kernel) ?_
      refine lv_adr2 a20 ?_
      refine x_lald C hH hO8 (j := 0) rfl (by omega) (by omega) dL_law_619 ?_
      rw [ho9]
      refine lv_iload hx hb dL_law_620 (lv_at hl 0 rfl) ?_
      refine lv_i2l hx hb dL_law_622 rfl ?_
      refine lv_lcmp hx hb dL_law_623 ?_
      refine lv_re (y := nI 0) (lcv_self _) ?_
      refine lv_if_eq (tgt := 629) hx hb dL_law_624 (by decide) (fun c_7 => ?_) (fun c_7 => absurd (by decide +kernel) c_7)
      clear c_7
      refine lv_goto (tgt := 1307) hx hb dL_law_629 (by decide) ?_
      refine W.widen (k := cells + 30) (n := slots + 700) (by show cells + 2 + 0 + 0 ≤ _; omega) (by show slots + 12 + 0 + 0 ≤ _; omega) ?_
      exact kk _ _ _ ⟨al9, w8, _, _, _, _, _, _, _, fr8, _, hH, hR8, INV_now hI c3, hM8, hO8, h09, a10.symm, a20.symm⟩ hS (lv_sub hl [2, 3, 4, 5, 6] rfl)

set_option maxHeartbeats 4000000 in
set_option maxRecDepth 100000 in
theorem op_right (l : Launch) (hfl : l.stackTraces = false) {p : Program} {e : Env} {s : State} {m : MethodId} {below : List Frame} {meth : Method} {c : Code} {ret9 : Option FieldType} {E : xE} {base b L : Nat} {xs : Nat → Int32} {Q : State → Prop} (C : XC p s m #[Value.ref b] meth c "DataroomLaw" cL_law 7 ret9 E base) (hXs : va_X b L xs s s.heap) (hbl : b < s.heap.size) (hbA : ¬ xA base b) {cells slots i : Nat} (hcs : cells + 30 ≤ 601024) (hss : slots + 700 ≤ 7293034) (hi : i + 6 ≤ L) (hL : L ≤ 3072)
    {al : Tg → Nat} {w : Tg → Option va_E} {nf np na nw : Nat} {sg : Nat → Nat → Nat → Int32} {rc : Nat → Bool} {th : Int32} {fr : Nat → Int32} {fo : Nat → Int64} (hR : RM E al w nf np na nw sg rc) (hI : INV nf np na nw sg rc) (hMM : MMf E al w th nf np na nw sg rc fr) (hO : w (20, 0, 0) = some (.inl (E.2.1 1, 1, .inr (.inl fo)))) {H : Heap} {locs : List Loc} {ls : Array Slot} (hH : xH E base al w H) (hS : va_S (xA base) s.heap H locs) (hl : lv_has ls 7 [(4, .int (nI i)), (3, .ref (al (20, 0, 0))), (2, .ref (al (10, 0, 0))), (1, .ref (al (0, 0, 0))), (0, .ref b)])
    (kk : ∀ (H : Heap) (locs : List Loc) (ls : Array Slot), SI E base (al (0, 0, 0)) (al (10, 0, 0)) (al (20, 0, 0)) H → va_S (xA base) s.heap H locs → lv_has ls 7 [(4, .int (nI i)), (3, .ref (al (20, 0, 0))), (2, .ref (al (10, 0, 0))), (1, .ref (al (0, 0, 0))), (0, .ref b)] → W p l e room_1 s m #[Value.ref b] below meth c H locs (cells + 30) (slots + 700) Q (F0 m 1307 ls [])) : W p l e room_1 s m #[Value.ref b] below meth c H locs cells slots Q (F0 m 376 ls []) := by
  have hx := C.hx
  have hb := C.hb
  refine lv_aload_n hx hb dL_law_376 rfl (lv_at hl 3 rfl) ?_
  refine lv_aload_n hx hb dL_law_377 rfl (lv_at hl 4 rfl) ?_
  refine lv_iload hx hb dL_law_378 (lv_at hl 0 rfl) ?_
  refine lv_iconst (v := nI 1) hx hb dL_law_380 (by decide +kernel) ?_
  refine lv_iadd hx hb dL_law_381 ?_
  refine lv_re (nI_add _ _) ?_
  refine va_sld C.hx C.hb hXs hbl hbA hS (vp_in_nI (by omega : i + 1 < L) (by omega)) dL_law_382 ?_
  rw [nI_clamp (by omega)]
  obtain ⟨x1, hx1⟩ : ∃ z9, z9 = xs (i + 1) := ⟨_, rfl⟩
  rw [← hx1]
  refine lv_aload_n hx hb dL_law_383 rfl (lv_at hl 4 rfl) ?_
  refine lv_iload hx hb dL_law_384 (lv_at hl 0 rfl) ?_
  refine lv_iconst (v := nI 2) hx hb dL_law_386 (by decide +kernel) ?_
  refine lv_iadd hx hb dL_law_387 ?_
  refine lv_re (nI_add _ _) ?_
  refine va_sld C.hx C.hb hXs hbl hbA hS (vp_in_nI (by omega : i + 2 < L) (by omega)) dL_law_388 ?_
  rw [nI_clamp (by omega)]
  obtain ⟨x2, hx2⟩ : ∃ z9, z9 = xs (i + 2) := ⟨_, rfl⟩
  rw [← hx2]
  refine lv_aload_n hx hb dL_law_389 rfl (lv_at hl 4 rfl) ?_
  refine lv_iload hx hb dL_law_390 (lv_at hl 0 rfl) ?_
  refine lv_iconst (v := nI 3) hx hb dL_law_392 (by decide +kernel) ?_
  refine lv_iadd hx hb dL_law_393 ?_
  refine lv_re (nI_add _ _) ?_
  refine va_sld C.hx C.hb hXs hbl hbA hS (vp_in_nI (by omega : i + 3 < L) (by omega)) dL_law_394 ?_
  rw [nI_clamp (by omega)]
  obtain ⟨x3, hx3⟩ : ∃ z9, z9 = xs (i + 3) := ⟨_, rfl⟩
  rw [← hx3]
  refine lv_aload_n hx hb dL_law_395 rfl (lv_at hl 4 rfl) ?_
  refine lv_iload hx hb dL_law_396 (lv_at hl 0 rfl) ?_
  refine lv_iconst (v := nI 4) hx hb dL_law_398 (by decide +kernel) ?_
  refine lv_iadd hx hb dL_law_399 ?_
  refine lv_re (nI_add _ _) ?_
  refine va_sld C.hx C.hb hXs hbl hbA hS (vp_in_nI (by omega : i + 4 < L) (by omega)) dL_law_400 ?_
  rw [nI_clamp (by omega)]
  obtain ⟨x4, hx4⟩ : ∃ z9, z9 = xs (i + 4) := ⟨_, rfl⟩
  rw [← hx4]
  refine lv_aload_n hx hb dL_law_401 rfl (lv_at hl 4 rfl) ?_
  refine lv_iload hx hb dL_law_402 (lv_at hl 0 rfl) ?_
  refine lv_iconst (v := nI 5) hx hb dL_law_404 (by decide +kernel) ?_
  refine lv_iadd hx hb dL_law_405 ?_
  refine lv_re (nI_add _ _) ?_
  refine va_sld C.hx C.hb hXs hbl hbA hS (vp_in_nI (by omega : i + 5 < L) (by omega)) dL_law_406 ?_
  rw [nI_clamp (by omega)]
  obtain ⟨x5, hx5⟩ : ∃ z9, z9 = xs (i + 5) := ⟨_, rfl⟩
  rw [← hx5]
  refine x_callH (k := 6) C hS (l_right l hfl (E := E) (base := base) hR hI (x := x1) (y := x2) (k := x3) (a := x4) (b := x5)) hH qw_416 qw_0 ⟨by decide +kernel, by decide +kernel, by decide +kernel⟩ qw_415 qw_414 rfl [] rfl hl.1 (Nat.le_of_ble_eq_true rfl) ⟨(Nat.le_of_ble_eq_true rfl), (Nat.le_of_ble_eq_true rfl)⟩ dL_law_407 ⟨by show cells + 6 ≤ 601024; omega, by show slots + 33 ≤ 7293034; omega⟩ (fun r H locs hp hS => ?_)
  rcases hp with ⟨rfl, c1, hH⟩ | ⟨rfl, c1, c2, hH⟩ | ⟨rfl, pp, f, hpp, hf, rfl, rfl, c2, hP⟩
  · skip
    obtain ⟨al9, hal9⟩ : ∃ z : Tg → Nat, z = al := ⟨_, rfl⟩
    have hfa : ∀ t : Tg, 10 ≤ t.1 → al9 t = al t := fun t _ => by rw [hal9]
    have h09 : al9 (0, 0, 0) = al (0, 0, 0) := by rw [hal9]
    have hR9 := hR
    have hM9 := hMM
    have hO8 := hO
    rw [← hal9] at hH hR9 hM9
    have a10 := (hfa (10, 0, 0) (by decide)).symm
    have a20 := (hfa (20, 0, 0) (by decide)).symm
    refine lv_istore (lv' := [(5, .int (nI 1)), (4, .int (nI i)), (3, .ref (al (20, 0, 0))), (2, .ref (al (10, 0, 0))), (1, .ref (al (0, 0, 0))), (0, .ref b)]) hx hb dL_law_410 hl (by decide) rfl (fun ls hl => ?_)
    refine lv_aload_n hx hb dL_law_412 rfl (lv_at hl 3 rfl) ?_
    refine lv_aload_n hx hb dL_law_413 rfl (lv_at hl 5 rfl) ?_
    refine lv_iload hx hb dL_law_414 (lv_at hl 1 rfl) ?_
    refine lv_iconst (v := nI 1) hx hb dL_law_416 (by decide +kernel) ?_
    refine lv_iadd hx hb dL_law_417 ?_
    refine lv_re (nI_add _ _) ?_
    refine va_sld C.hx C.hb hXs hbl hbA hS (vp_in_nI (by omega : i + 1 < L) (by omega)) dL_law_418 ?_
    rw [nI_clamp (by omega)]
    rw [← hx1]
    refine lv_aload_n hx hb dL_law_419 rfl (lv_at hl 5 rfl) ?_
    refine lv_iload hx hb dL_law_420 (lv_at hl 1 rfl) ?_
    refine lv_iconst (v := nI 2) hx hb dL_law_422 (by decide +kernel) ?_
    refine lv_iadd hx hb dL_law_423 ?_
    refine lv_re (nI_add _ _) ?_
    refine va_sld C.hx C.hb hXs hbl hbA hS (vp_in_nI (by omega : i + 2 < L) (by omega)) dL_law_424 ?_
    rw [nI_clamp (by omega)]
    rw [← hx2]
    refine lv_aload_n hx hb dL_law_425 rfl (lv_at hl 5 rfl) ?_
    refine lv_iload hx hb dL_law_426 (lv_at hl 1 rfl) ?_
    refine lv_iconst (v := nI 3) hx hb dL_law_428 (by decide +kernel) ?_
    refine lv_iadd hx hb dL_law_429 ?_
    refine lv_re (nI_add _ _) ?_
    refine va_sld C.hx C.hb hXs hbl hbA hS (vp_in_nI (by omega : i + 3 < L) (by omega)) dL_law_430 ?_
    rw [nI_clamp (by omega)]
    rw [← hx3]
    refine lv_aload_n hx hb dL_law_431 rfl (lv_at hl 5 rfl) ?_
    refine lv_iload hx hb dL_law_432 (lv_at hl 1 rfl) ?_
    refine lv_iconst (v := nI 4) hx hb dL_law_434 (by decide +kernel) ?_
    refine lv_iadd hx hb dL_law_435 ?_
    refine lv_re (nI_add _ _) ?_
    refine va_sld C.hx C.hb hXs hbl hbA hS (vp_in_nI (by omega : i + 4 < L) (by omega)) dL_law_436 ?_
    rw [nI_clamp (by omega)]
    rw [← hx4]
    refine lv_aload_n hx hb dL_law_437 rfl (lv_at hl 5 rfl) ?_
    refine lv_iload hx hb dL_law_438 (lv_at hl 1 rfl) ?_
    refine lv_iconst (v := nI 5) hx hb dL_law_440 (by decide +kernel) ?_
    refine lv_iadd hx hb dL_law_441 ?_
    refine lv_re (nI_add _ _) ?_
    refine va_sld C.hx C.hb hXs hbl hbA hS (vp_in_nI (by omega : i + 5 < L) (by omega)) dL_law_442 ?_
    rw [nI_clamp (by omega)]
    rw [← hx5]
    refine lv_adr6 a10 ?_
    refine x_callV C hH hS (ci := 8) (t := (10, 0, 0)) hM9.1 rfl rfl (m_right l (E := E) (base := base) hM9 hI (x := x1) (y := x2) (k := x3) (a := x4) (b := x5)) hH kX7_right qw_795 qw_796 qw_794 rfl [] rfl hl.1 (Nat.le_of_ble_eq_true rfl) ⟨(Nat.le_of_ble_eq_true rfl), (Nat.le_of_ble_eq_true rfl)⟩ dL_law_443 ⟨by show cells + 6 + 0 ≤ 601024; omega, by show slots + 33 + 0 ≤ 7293034; omega⟩ (fun r H locs hp hS => ?_)
    obtain ⟨rfl, hp⟩ := hp
    rcases hp with ⟨g1, hP8⟩ | ⟨g1, g2, hP8⟩ | ⟨p8, f8, hp8, hf8, e8, eb8, g2, hr8, hP8⟩
    · skip
      obtain ⟨w8, fr8, hH, hM8, hf8⟩ := hP8
      have hR8 := hR9.of (fun t ht => hf8 t (by unfold dm at ht; omega)) (fun _ _ => rfl)
      replace hO8 := (hf8 (20, 0, 0) (by decide)).trans hO8
      refine lv_aload_n hx hb dL_law_446 rfl (lv_at hl 3 rfl) ?_
      refine lv_adr a10 ?_
      refine x_callV C hH hS (ci := 8) (t := (10, 0, 0)) hM8.1 rfl rfl (m_thrown l (E := E) (base := base) hM8 ) hH kX7_thrown qw_756 qw_757 qw_755 rfl [] rfl hl.1 (Nat.le_of_ble_eq_true rfl) ⟨(Nat.le_of_ble_eq_true rfl), (Nat.le_of_ble_eq_true rfl)⟩ dL_law_447 ⟨by show cells + 6 + 0 ≤ 601024; omega, by show slots + 33 + 0 ≤ 7293034; omega⟩ (fun r H locs hp hS => ?_)
      obtain ⟨rfl, hH⟩ := hp
      refine lv_iload hx hb dL_law_450 (lv_at hl 0 rfl) ?_
      refine lv_icmp_eq (tgt := 457) hx hb dL_law_452 (by decide) (fun c_1 => ?_) (fun c_1 => absurd (by decide +kernel) c_1)
      clear c_1
      refine lv_goto (tgt := 1307) hx hb dL_law_457 (by decide) ?_
      refine W.widen (k := cells + 30) (n := slots + 700) (by show cells + 6 + 0 + 0 ≤ _; omega) (by show slots + 33 + 0 + 0 ≤ _; omega) ?_
      exact kk _ _ _ ⟨al9, w8, _, _, _, _, _, _, _, fr8, _, hH, hR8, hI, hM8, hO8, h09, a10.symm, a20.symm⟩ hS (lv_sub hl [1, 2, 3, 4, 5] rfl)
    · skip
      exfalso; first | exact c1 g1 | exact g1 c1 | exact c2 g2 | exact g2 c2 | exact c3 g3 | exact g3 c3 | (have q9 := (nI_eq (by have := hI.1; have := hI.2.1; have := hI.2.2.1; omega) (by have := hI.1; have := hI.2.1; have := hI.2.2.1; omega)).mp e8; subst q9; first | exact c4 g4 | exact g4 c4)
    · skip
      have g1 : inR _ np ∧ inR _ nf := ⟨⟨p8, hp8, e8⟩, ⟨f8, hf8, eb8⟩⟩
      exfalso; first | exact c1 g1 | exact g1 c1 | exact c2 g2 | exact g2 c2 | exact c3 g3 | exact g3 c3 | (have q9 := (nI_eq (by have := hI.1; have := hI.2.1; have := hI.2.2.1; omega) (by have := hI.1; have := hI.2.1; have := hI.2.2.1; omega)).mp e8; subst q9; first | exact c4 g4 | exact g4 c4)
  · skip
    obtain ⟨al9, hal9⟩ : ∃ z : Tg → Nat, z = al := ⟨_, rfl⟩
    have hfa : ∀ t : Tg, 10 ≤ t.1 → al9 t = al t := fun t _ => by rw [hal9]
    have h09 : al9 (0, 0, 0) = al (0, 0, 0) := by rw [hal9]
    have hR9 := hR
    have hM9 := hMM
    have hO8 := hO
    rw [← hal9] at hH hR9 hM9
    have a10 := (hfa (10, 0, 0) (by decide)).symm
    have a20 := (hfa (20, 0, 0) (by decide)).symm
    refine lv_istore (lv' := [(5, .int (nI 2)), (4, .int (nI i)), (3, .ref (al (20, 0, 0))), (2, .ref (al (10, 0, 0))), (1, .ref (al (0, 0, 0))), (0, .ref b)]) hx hb dL_law_410 hl (by decide) rfl (fun ls hl => ?_)
    refine lv_aload_n hx hb dL_law_412 rfl (lv_at hl 3 rfl) ?_
    refine lv_aload_n hx hb dL_law_413 rfl (lv_at hl 5 rfl) ?_
    refine lv_iload hx hb dL_law_414 (lv_at hl 1 rfl) ?_
    refine lv_iconst (v := nI 1) hx hb dL_law_416 (by decide +kernel) ?_
    refine lv_iadd hx hb dL_law_417 ?_
    refine lv_re (nI_add _ _) ?_
    refine va_sld C.hx C.hb hXs hbl hbA hS (vp_in_nI (by omega : i + 1 < L) (by omega)) dL_law_418 ?_
    rw [nI_clamp (by omega)]
    rw [← hx1]
    refine lv_aload_n hx hb dL_law_419 rfl (lv_at hl 5 rfl) ?_
    refine lv_iload hx hb dL_law_420 (lv_at hl 1 rfl) ?_
    refine lv_iconst (v := nI 2) hx hb dL_law_422 (by decide +kernel) ?_
    refine lv_iadd hx hb dL_law_423 ?_
    refine lv_re (nI_add _ _) ?_
    refine va_sld C.hx C.hb hXs hbl hbA hS (vp_in_nI (by omega : i + 2 < L) (by omega)) dL_law_424 ?_
    rw [nI_clamp (by omega)]
    rw [← hx2]
    refine lv_aload_n hx hb dL_law_425 rfl (lv_at hl 5 rfl) ?_
    refine lv_iload hx hb dL_law_426 (lv_at hl 1 rfl) ?_
    refine lv_iconst (v := nI 3) hx hb dL_law_428 (by decide +kernel) ?_
    refine lv_iadd hx hb dL_law_429 ?_
    refine lv_re (nI_add _ _) ?_
    refine va_sld C.hx C.hb hXs hbl hbA hS (vp_in_nI (by omega : i + 3 < L) (by omega)) dL_law_430 ?_
    rw [nI_clamp (by omega)]
    rw [← hx3]
    refine lv_aload_n hx hb dL_law_431 rfl (lv_at hl 5 rfl) ?_
    refine lv_iload hx hb dL_law_432 (lv_at hl 1 rfl) ?_
    refine lv_iconst (v := nI 4) hx hb dL_law_434 (by decide +kernel) ?_
    refine lv_iadd hx hb dL_law_435 ?_
    refine lv_re (nI_add _ _) ?_
    refine va_sld C.hx C.hb hXs hbl hbA hS (vp_in_nI (by omega : i + 4 < L) (by omega)) dL_law_436 ?_
    rw [nI_clamp (by omega)]
    rw [← hx4]
    refine lv_aload_n hx hb dL_law_437 rfl (lv_at hl 5 rfl) ?_
    refine lv_iload hx hb dL_law_438 (lv_at hl 1 rfl) ?_
    refine lv_iconst (v := nI 5) hx hb dL_law_440 (by decide +kernel) ?_
    refine lv_iadd hx hb dL_law_441 ?_
    refine lv_re (nI_add _ _) ?_
    refine va_sld C.hx C.hb hXs hbl hbA hS (vp_in_nI (by omega : i + 5 < L) (by omega)) dL_law_442 ?_
    rw [nI_clamp (by omega)]
    rw [← hx5]
    refine lv_adr6 a10 ?_
    refine x_callV C hH hS (ci := 8) (t := (10, 0, 0)) hM9.1 rfl rfl (m_right l (E := E) (base := base) hM9 hI (x := x1) (y := x2) (k := x3) (a := x4) (b := x5)) hH kX7_right qw_795 qw_796 qw_794 rfl [] rfl hl.1 (Nat.le_of_ble_eq_true rfl) ⟨(Nat.le_of_ble_eq_true rfl), (Nat.le_of_ble_eq_true rfl)⟩ dL_law_443 ⟨by show cells + 6 + 0 ≤ 601024; omega, by show slots + 33 + 0 ≤ 7293034; omega⟩ (fun r H locs hp hS => ?_)
    obtain ⟨rfl, hp⟩ := hp
    rcases hp with ⟨g1, hP8⟩ | ⟨g1, g2, hP8⟩ | ⟨p8, f8, hp8, hf8, e8, eb8, g2, hr8, hP8⟩
    · skip
      exfalso; first | exact c1 g1 | exact g1 c1 | exact c2 g2 | exact g2 c2 | exact c3 g3 | exact g3 c3 | (have q9 := (nI_eq (by have := hI.1; have := hI.2.1; have := hI.2.2.1; omega) (by have := hI.1; have := hI.2.1; have := hI.2.2.1; omega)).mp e8; subst q9; first | exact c4 g4 | exact g4 c4)
    · skip
      obtain ⟨w8, fr8, hH, hM8, hf8⟩ := hP8
      have hR8 := hR9.of (fun t ht => hf8 t (by unfold dm at ht; omega)) (fun _ _ => rfl)
      replace hO8 := (hf8 (20, 0, 0) (by decide)).trans hO8
      refine lv_aload_n hx hb dL_law_446 rfl (lv_at hl 3 rfl) ?_
      refine lv_adr a10 ?_
      refine x_callV C hH hS (ci := 8) (t := (10, 0, 0)) hM8.1 rfl rfl (m_thrown l (E := E) (base := base) hM8 ) hH kX7_thrown qw_756 qw_757 qw_755 rfl [] rfl hl.1 (Nat.le_of_ble_eq_true rfl) ⟨(Nat.le_of_ble_eq_true rfl), (Nat.le_of_ble_eq_true rfl)⟩ dL_law_447 ⟨by show cells + 6 + 0 ≤ 601024; omega, by show slots + 33 + 0 ≤ 7293034; omega⟩ (fun r H locs hp hS => ?_)
      obtain ⟨rfl, hH⟩ := hp
      refine lv_iload hx hb dL_law_450 (lv_at hl 0 rfl) ?_
      refine lv_icmp_eq (tgt := 457) hx hb dL_law_452 (by decide) (fun c_2 => ?_) (fun c_2 => absurd (by decide +kernel) c_2)
      clear c_2
      refine lv_goto (tgt := 1307) hx hb dL_law_457 (by decide) ?_
      refine W.widen (k := cells + 30) (n := slots + 700) (by show cells + 6 + 0 + 0 ≤ _; omega) (by show slots + 33 + 0 + 0 ≤ _; omega) ?_
      exact kk _ _ _ ⟨al9, w8, _, _, _, _, _, _, _, fr8, _, hH, hR8, hI, hM8, hO8, h09, a10.symm, a20.symm⟩ hS (lv_sub hl [1, 2, 3, 4, 5] rfl)
    · skip
      have g1 : inR _ np ∧ inR _ nf := ⟨⟨p8, hp8, e8⟩, ⟨f8, hf8, eb8⟩⟩
      exfalso; first | exact c1 g1 | exact g1 c1 | exact c2 g2 | exact g2 c2 | exact c3 g3 | exact g3 c3 | (have q9 := (nI_eq (by have := hI.1; have := hI.2.1; have := hI.2.2.1; omega) (by have := hI.1; have := hI.2.1; have := hI.2.2.1; omega)).mp e8; subst q9; first | exact c4 g4 | exact g4 c4)
  · skip
    have c1 : inR (nI pp) np ∧ inR (nI f) nf := ⟨⟨pp, hpp, rfl⟩, ⟨f, hf, rfl⟩⟩
    obtain ⟨al9, w9, hH, hR9, hf9, h09⟩ := hP
    have hO8 : w9 (20, 0, 0) = _ := (hf9 (20, 0, 0) (by decide)).1.trans hO
    have hfa : ∀ t : Tg, 10 ≤ t.1 → al9 t = al t := fun t ht => (hf9 t ht).2
    have hM9 := hMM.mv (fun t ht => (hf9 t (by omega)).1) (fun t ht => hfa t (by omega))
    have a10 := (hfa (10, 0, 0) (by decide)).symm
    have a20 := (hfa (20, 0, 0) (by decide)).symm
    refine lv_istore (lv' := [(5, .int (nI 0)), (4, .int (nI i)), (3, .ref (al (20, 0, 0))), (2, .ref (al (10, 0, 0))), (1, .ref (al (0, 0, 0))), (0, .ref b)]) hx hb dL_law_410 hl (by decide) rfl (fun ls hl => ?_)
    refine lv_aload_n hx hb dL_law_412 rfl (lv_at hl 3 rfl) ?_
    refine lv_aload_n hx hb dL_law_413 rfl (lv_at hl 5 rfl) ?_
    refine lv_iload hx hb dL_law_414 (lv_at hl 1 rfl) ?_
    refine lv_iconst (v := nI 1) hx hb dL_law_416 (by decide +kernel) ?_
    refine lv_iadd hx hb dL_law_417 ?_
    refine lv_re (nI_add _ _) ?_
    refine va_sld C.hx C.hb hXs hbl hbA hS (vp_in_nI (by omega : i + 1 < L) (by omega)) dL_law_418 ?_
    rw [nI_clamp (by omega)]
    rw [← hx1]
    refine lv_aload_n hx hb dL_law_419 rfl (lv_at hl 5 rfl) ?_
    refine lv_iload hx hb dL_law_420 (lv_at hl 1 rfl) ?_
    refine lv_iconst (v := nI 2) hx hb dL_law_422 (by decide +kernel) ?_
    refine lv_iadd hx hb dL_law_423 ?_
    refine lv_re (nI_add _ _) ?_
    refine va_sld C.hx C.hb hXs hbl hbA hS (vp_in_nI (by omega : i + 2 < L) (by omega)) dL_law_424 ?_
    rw [nI_clamp (by omega)]
    rw [← hx2]
    refine lv_aload_n hx hb dL_law_425 rfl (lv_at hl 5 rfl) ?_
    refine lv_iload hx hb dL_law_426 (lv_at hl 1 rfl) ?_
    refine lv_iconst (v := nI 3) hx hb dL_law_428 (by decide +kernel) ?_
    refine lv_iadd hx hb dL_law_429 ?_
    refine lv_re (nI_add _ _) ?_
    refine va_sld C.hx C.hb hXs hbl hbA hS (vp_in_nI (by omega : i + 3 < L) (by omega)) dL_law_430 ?_
    rw [nI_clamp (by omega)]
    rw [← hx3]
    refine lv_aload_n hx hb dL_law_431 rfl (lv_at hl 5 rfl) ?_
    refine lv_iload hx hb dL_law_432 (lv_at hl 1 rfl) ?_
    refine lv_iconst (v := nI 4) hx hb dL_law_434 (by decide +kernel) ?_
    refine lv_iadd hx hb dL_law_435 ?_
    refine lv_re (nI_add _ _) ?_
    refine va_sld C.hx C.hb hXs hbl hbA hS (vp_in_nI (by omega : i + 4 < L) (by omega)) dL_law_436 ?_
    rw [nI_clamp (by omega)]
    rw [← hx4]
    refine lv_aload_n hx hb dL_law_437 rfl (lv_at hl 5 rfl) ?_
    refine lv_iload hx hb dL_law_438 (lv_at hl 1 rfl) ?_
    refine lv_iconst (v := nI 5) hx hb dL_law_440 (by decide +kernel) ?_
    refine lv_iadd hx hb dL_law_441 ?_
    refine lv_re (nI_add _ _) ?_
    refine va_sld C.hx C.hb hXs hbl hbA hS (vp_in_nI (by omega : i + 5 < L) (by omega)) dL_law_442 ?_
    rw [nI_clamp (by omega)]
    rw [← hx5]
    refine lv_adr6 a10 ?_
    refine x_callV C hH hS (ci := 8) (t := (10, 0, 0)) hM9.1 rfl rfl (m_right l (E := E) (base := base) hM9 hI (x := nI pp) (y := nI f) (k := x3) (a := x4) (b := x5)) hH kX7_right qw_795 qw_796 qw_794 rfl [] rfl hl.1 (Nat.le_of_ble_eq_true rfl) ⟨(Nat.le_of_ble_eq_true rfl), (Nat.le_of_ble_eq_true rfl)⟩ dL_law_443 ⟨by show cells + 6 + 0 ≤ 601024; omega, by show slots + 33 + 0 ≤ 7293034; omega⟩ (fun r H locs hp hS => ?_)
    obtain ⟨rfl, hp⟩ := hp
    rcases hp with ⟨g1, hP8⟩ | ⟨g1, g2, hP8⟩ | ⟨p8, f8, hp8, hf8, e8, eb8, g2, hr8, hP8⟩
    · skip
      exfalso; first | exact c1 g1 | exact g1 c1 | exact c2 g2 | exact g2 c2 | exact c3 g3 | exact g3 c3 | (have q9 := (nI_eq (by have := hI.1; have := hI.2.1; have := hI.2.2.1; omega) (by have := hI.1; have := hI.2.1; have := hI.2.2.1; omega)).mp e8; subst q9; first | exact c4 g4 | exact g4 c4)
    · skip
      exfalso; first | exact c1 g1 | exact g1 c1 | exact c2 g2 | exact g2 c2 | exact c3 g3 | exact g3 c3 | (have q9 := (nI_eq (by have := hI.1; have := hI.2.1; have := hI.2.2.1; omega) (by have := hI.1; have := hI.2.1; have := hI.2.2.1; omega)).mp e8; subst q9; first | exact c4 g4 | exact g4 c4)
    · skip
      have g1 : inR _ np ∧ inR _ nf := ⟨⟨p8, hp8, e8⟩, ⟨f8, hf8, eb8⟩⟩
      have q9 := (nI_eq (by have := hI.1; have := hI.2.1; have := hI.2.2.1; omega) (by have := hI.1; have := hI.2.1; have := hI.2.2.1; omega)).mp e8
      subst q9
      have q8 := (nI_eq (by have := hI.1; have := hI.2.1; have := hI.2.2.1; omega) (by have := hI.1; have := hI.2.1; have := hI.2.2.1; omega)).mp eb8
      subst q8
      obtain ⟨w8, fr8, hH, hM8, hf8⟩ := hP8
      have hR8 := hR9.of (fun t ht => hf8 t (by unfold dm at ht; omega)) (fun _ _ => rfl)
      replace hO8 := (hf8 (20, 0, 0) (by decide)).trans hO8
      refine lv_aload_n hx hb dL_law_446 rfl (lv_at hl 3 rfl) ?_
      refine lv_adr a10 ?_
      refine x_callV C hH hS (ci := 8) (t := (10, 0, 0)) hM8.1 rfl rfl (m_thrown l (E := E) (base := base) hM8 ) hH kX7_thrown qw_756 qw_757 qw_755 rfl [] rfl hl.1 (Nat.le_of_ble_eq_true rfl) ⟨(Nat.le_of_ble_eq_true rfl), (Nat.le_of_ble_eq_true rfl)⟩ dL_law_447 ⟨by show cells + 6 + 0 ≤ 601024; omega, by show slots + 33 + 0 ≤ 7293034; omega⟩ (fun r H locs hp hS => ?_)
      obtain ⟨rfl, hH⟩ := hp
      refine lv_iload hx hb dL_law_450 (lv_at hl 0 rfl) ?_
      refine lv_icmp_eq (tgt := 457) hx hb dL_law_452 (by decide) (fun c_3 => ?_) (fun c_3 => absurd (by decide +kernel) c_3)
      clear c_3
      refine lv_goto (tgt := 1307) hx hb dL_law_457 (by decide) ?_
      refine W.widen (k := cells + 30) (n := slots + 700) (by show cells + 6 + 0 + 0 ≤ _; omega) (by show slots + 33 + 0 + 0 ≤ _; omega) ?_
      exact kk _ _ _ ⟨al9, w8, _, _, _, _, _, _, _, fr8, _, hH, hR8, INV_right hI hpp c2.1, hM8, hO8, h09, a10.symm, a20.symm⟩ hS (lv_sub hl [1, 2, 3, 4, 5] rfl)

set_option maxHeartbeats 4000000 in
set_option maxRecDepth 100000 in
theorem op_takeBack (l : Launch) (hfl : l.stackTraces = false) {p : Program} {e : Env} {s : State} {m : MethodId} {below : List Frame} {meth : Method} {c : Code} {ret9 : Option FieldType} {E : xE} {base b L : Nat} {xs : Nat → Int32} {Q : State → Prop} (C : XC p s m #[Value.ref b] meth c "DataroomLaw" cL_law 7 ret9 E base) (hXs : va_X b L xs s s.heap) (hbl : b < s.heap.size) (hbA : ¬ xA base b) {cells slots i : Nat} (hcs : cells + 30 ≤ 601024) (hss : slots + 700 ≤ 7293034) (hi : i + 6 ≤ L) (hL : L ≤ 3072)
    {al : Tg → Nat} {w : Tg → Option va_E} {nf np na nw : Nat} {sg : Nat → Nat → Nat → Int32} {rc : Nat → Bool} {th : Int32} {fr : Nat → Int32} {fo : Nat → Int64} (hR : RM E al w nf np na nw sg rc) (hI : INV nf np na nw sg rc) (hMM : MMf E al w th nf np na nw sg rc fr) (hO : w (20, 0, 0) = some (.inl (E.2.1 1, 1, .inr (.inl fo)))) {H : Heap} {locs : List Loc} {ls : Array Slot} (hH : xH E base al w H) (hS : va_S (xA base) s.heap H locs) (hl : lv_has ls 7 [(4, .int (nI i)), (3, .ref (al (20, 0, 0))), (2, .ref (al (10, 0, 0))), (1, .ref (al (0, 0, 0))), (0, .ref b)])
    (kk : ∀ (H : Heap) (locs : List Loc) (ls : Array Slot), SI E base (al (0, 0, 0)) (al (10, 0, 0)) (al (20, 0, 0)) H → va_S (xA base) s.heap H locs → lv_has ls 7 [(4, .int (nI i)), (3, .ref (al (20, 0, 0))), (2, .ref (al (10, 0, 0))), (1, .ref (al (0, 0, 0))), (0, .ref b)] → W p l e room_1 s m #[Value.ref b] below meth c H locs (cells + 30) (slots + 700) Q (F0 m 1307 ls [])) : W p l e room_1 s m #[Value.ref b] below meth c H locs cells slots Q (F0 m 460 ls []) := by
  have hx := C.hx
  have hb := C.hb
  refine lv_aload_n hx hb dL_law_460 rfl (lv_at hl 3 rfl) ?_
  refine lv_aload_n hx hb dL_law_461 rfl (lv_at hl 4 rfl) ?_
  refine lv_iload hx hb dL_law_462 (lv_at hl 0 rfl) ?_
  refine lv_iconst (v := nI 1) hx hb dL_law_464 (by decide +kernel) ?_
  refine lv_iadd hx hb dL_law_465 ?_
  refine lv_re (nI_add _ _) ?_
  refine va_sld C.hx C.hb hXs hbl hbA hS (vp_in_nI (by omega : i + 1 < L) (by omega)) dL_law_466 ?_
  rw [nI_clamp (by omega)]
  obtain ⟨x1, hx1⟩ : ∃ z9, z9 = xs (i + 1) := ⟨_, rfl⟩
  rw [← hx1]
  refine lv_aload_n hx hb dL_law_467 rfl (lv_at hl 4 rfl) ?_
  refine lv_iload hx hb dL_law_468 (lv_at hl 0 rfl) ?_
  refine lv_iconst (v := nI 2) hx hb dL_law_470 (by decide +kernel) ?_
  refine lv_iadd hx hb dL_law_471 ?_
  refine lv_re (nI_add _ _) ?_
  refine va_sld C.hx C.hb hXs hbl hbA hS (vp_in_nI (by omega : i + 2 < L) (by omega)) dL_law_472 ?_
  rw [nI_clamp (by omega)]
  obtain ⟨x2, hx2⟩ : ∃ z9, z9 = xs (i + 2) := ⟨_, rfl⟩
  rw [← hx2]
  refine lv_aload_n hx hb dL_law_473 rfl (lv_at hl 1 rfl) ?_
  refine x_callH (k := 4) C hS (l_takeBack l hfl (E := E) (base := base) hR hI hO (x := x1) (z := x2)) hH qw_443 qw_0 ⟨by decide +kernel, by decide +kernel, by decide +kernel⟩ qw_442 qw_441 rfl [] rfl hl.1 (Nat.le_of_ble_eq_true rfl) ⟨(Nat.le_of_ble_eq_true rfl), (Nat.le_of_ble_eq_true rfl)⟩ dL_law_474 ⟨by show cells + 2 ≤ 601024; omega, by show slots + 12 ≤ 7293034; omega⟩ (fun r H locs hp hS => ?_)
  rcases hp with ⟨rfl, c1, hH⟩ | ⟨rfl, pp, f, hpp, hf, rfl, rfl, hP⟩
  · skip
    obtain ⟨al9, hal9⟩ : ∃ z : Tg → Nat, z = al := ⟨_, rfl⟩
    have hfa : ∀ t : Tg, 10 ≤ t.1 → al9 t = al t := fun t _ => by rw [hal9]
    have h09 : al9 (0, 0, 0) = al (0, 0, 0) := by rw [hal9]
    have hR9 := hR
    have hM9 := hMM
    have hO8 := hO
    rw [← hal9] at hH hR9 hM9
    have a10 := (hfa (10, 0, 0) (by decide)).symm
    have a20 := (hfa (20, 0, 0) (by decide)).symm
    refine lv_istore (lv' := [(5, .int (nI 1)), (4, .int (nI i)), (3, .ref (al (20, 0, 0))), (2, .ref (al (10, 0, 0))), (1, .ref (al (0, 0, 0))), (0, .ref b)]) hx hb dL_law_477 hl (by decide) rfl (fun ls hl => ?_)
    refine lv_aload_n hx hb dL_law_479 rfl (lv_at hl 3 rfl) ?_
    refine lv_aload_n hx hb dL_law_480 rfl (lv_at hl 5 rfl) ?_
    refine lv_iload hx hb dL_law_481 (lv_at hl 1 rfl) ?_
    refine lv_iconst (v := nI 1) hx hb dL_law_483 (by decide +kernel) ?_
    refine lv_iadd hx hb dL_law_484 ?_
    refine lv_re (nI_add _ _) ?_
    refine va_sld C.hx C.hb hXs hbl hbA hS (vp_in_nI (by omega : i + 1 < L) (by omega)) dL_law_485 ?_
    rw [nI_clamp (by omega)]
    rw [← hx1]
    refine lv_aload_n hx hb dL_law_486 rfl (lv_at hl 5 rfl) ?_
    refine lv_iload hx hb dL_law_487 (lv_at hl 1 rfl) ?_
    refine lv_iconst (v := nI 2) hx hb dL_law_489 (by decide +kernel) ?_
    refine lv_iadd hx hb dL_law_490 ?_
    refine lv_re (nI_add _ _) ?_
    refine va_sld C.hx C.hb hXs hbl hbA hS (vp_in_nI (by omega : i + 2 < L) (by omega)) dL_law_491 ?_
    rw [nI_clamp (by omega)]
    rw [← hx2]
    refine lv_adr3 a10 ?_
    refine x_callV C hH hS (ci := 8) (t := (10, 0, 0)) hM9.1 rfl rfl (m_takeBack l (E := E) (base := base) hM9 hI (x := x1) (z := x2)) hH kX7_takeBack qw_799 qw_800 qw_798 rfl [] rfl hl.1 (Nat.le_of_ble_eq_true rfl) ⟨(Nat.le_of_ble_eq_true rfl), (Nat.le_of_ble_eq_true rfl)⟩ dL_law_492 ⟨by show cells + 2 + 0 ≤ 601024; omega, by show slots + 12 + 0 ≤ 7293034; omega⟩ (fun r H locs hp hS => ?_)
    obtain ⟨⟨v9, rfl⟩, hp⟩ := hp
    rcases hp with ⟨g1, hP8⟩ | ⟨p8, f8, hp8, hf8, e8, eb8, hr8, hP8⟩
    · skip
      obtain ⟨w8, fr8, hH, hM8, hf8⟩ := hP8
      have hR8 := hR9.of (fun t ht => hf8 t (by unfold dm at ht; omega)) (fun _ _ => rfl)
      replace hO8 := (hf8 (20, 0, 0) (by decide)).trans hO8
      refine lv_istore (lv' := [(6, .int v9), (5, .int (nI 1)), (4, .int (nI i)), (3, .ref (al (20, 0, 0))), (2, .ref (al (10, 0, 0))), (1, .ref (al (0, 0, 0))), (0, .ref b)]) hx hb dL_law_495 hl (by decide) rfl (fun ls hl => ?_)
      refine lv_aload_n hx hb dL_law_497 rfl (lv_at hl 4 rfl) ?_
      refine lv_adr a10 ?_
      refine x_callV C hH hS (ci := 8) (t := (10, 0, 0)) hM8.1 rfl rfl (m_thrown l (E := E) (base := base) hM8 ) hH kX7_thrown qw_756 qw_757 qw_755 rfl [] rfl hl.1 (Nat.le_of_ble_eq_true rfl) ⟨(Nat.le_of_ble_eq_true rfl), (Nat.le_of_ble_eq_true rfl)⟩ dL_law_498 ⟨by show cells + 2 + 0 ≤ 601024; omega, by show slots + 12 + 0 ≤ 7293034; omega⟩ (fun r H locs hp hS => ?_)
      obtain ⟨rfl, hH⟩ := hp
      refine lv_iload hx hb dL_law_501 (lv_at hl 1 rfl) ?_
      refine lv_icmp_eq (tgt := 508) hx hb dL_law_503 (by decide) (fun c_1 => ?_) (fun c_1 => absurd (by decide +kernel) c_1)
      clear c_1
      refine lv_iload hx hb dL_law_508 (lv_at hl 1 rfl) ?_
      refine lv_if_ne (tgt := 525) hx hb dL_law_510 (by decide) (fun c_2 => ?_) (fun c_2 => absurd c_2 (by decide +kernel))
      clear c_2
      refine lv_goto (tgt := 1307) hx hb dL_law_525 (by decide) ?_
      refine W.widen (k := cells + 30) (n := slots + 700) (by show cells + 2 + 0 + 0 ≤ _; omega) (by show slots + 12 + 0 + 0 ≤ _; omega) ?_
      exact kk _ _ _ ⟨al9, w8, _, _, _, _, _, _, _, fr8, _, hH, hR8, hI, hM8, hO8, h09, a10.symm, a20.symm⟩ hS (lv_sub hl [2, 3, 4, 5, 6] rfl)
    · skip
      have g1 : inR _ np ∧ inR _ nf := ⟨⟨p8, hp8, e8⟩, ⟨f8, hf8, eb8⟩⟩
      exfalso; first | exact c1 g1 | exact g1 c1 | exact c2 g2 | exact g2 c2 | exact c3 g3 | exact g3 c3 | (have q9 := (nI_eq (by have := hI.1; have := hI.2.1; have := hI.2.2.1; omega) (by have := hI.1; have := hI.2.1; have := hI.2.2.1; omega)).mp e8; subst q9; first | exact c4 g4 | exact g4 c4)
  · skip
    have c1 : inR (nI pp) np ∧ inR (nI f) nf := ⟨⟨pp, hpp, rfl⟩, ⟨f, hf, rfl⟩⟩
    obtain ⟨al9, w9, fo9, hH, hR9, hO8, ho8, hfa, hfw, h09⟩ := hP
    have hM9 := hMM.mv (fun t ht => hfw t (by omega) (fun e => by rw [e] at ht; revert ht; simp)) (fun t ht => hfa t (by omega))
    have a10 := (hfa (10, 0, 0) (by decide)).symm
    have a20 := (hfa (20, 0, 0) (by decide)).symm
    refine lv_istore (lv' := [(5, .int (nI 0)), (4, .int (nI i)), (3, .ref (al (20, 0, 0))), (2, .ref (al (10, 0, 0))), (1, .ref (al (0, 0, 0))), (0, .ref b)]) hx hb dL_law_477 hl (by decide) rfl (fun ls hl => ?_)
    refine lv_aload_n hx hb dL_law_479 rfl (lv_at hl 3 rfl) ?_
    refine lv_aload_n hx hb dL_law_480 rfl (lv_at hl 5 rfl) ?_
    refine lv_iload hx hb dL_law_481 (lv_at hl 1 rfl) ?_
    refine lv_iconst (v := nI 1) hx hb dL_law_483 (by decide +kernel) ?_
    refine lv_iadd hx hb dL_law_484 ?_
    refine lv_re (nI_add _ _) ?_
    refine va_sld C.hx C.hb hXs hbl hbA hS (vp_in_nI (by omega : i + 1 < L) (by omega)) dL_law_485 ?_
    rw [nI_clamp (by omega)]
    rw [← hx1]
    refine lv_aload_n hx hb dL_law_486 rfl (lv_at hl 5 rfl) ?_
    refine lv_iload hx hb dL_law_487 (lv_at hl 1 rfl) ?_
    refine lv_iconst (v := nI 2) hx hb dL_law_489 (by decide +kernel) ?_
    refine lv_iadd hx hb dL_law_490 ?_
    refine lv_re (nI_add _ _) ?_
    refine va_sld C.hx C.hb hXs hbl hbA hS (vp_in_nI (by omega : i + 2 < L) (by omega)) dL_law_491 ?_
    rw [nI_clamp (by omega)]
    rw [← hx2]
    refine lv_adr3 a10 ?_
    refine x_callV C hH hS (ci := 8) (t := (10, 0, 0)) hM9.1 rfl rfl (m_takeBack l (E := E) (base := base) hM9 hI (x := nI pp) (z := nI f)) hH kX7_takeBack qw_799 qw_800 qw_798 rfl [] rfl hl.1 (Nat.le_of_ble_eq_true rfl) ⟨(Nat.le_of_ble_eq_true rfl), (Nat.le_of_ble_eq_true rfl)⟩ dL_law_492 ⟨by show cells + 2 + 0 ≤ 601024; omega, by show slots + 12 + 0 ≤ 7293034; omega⟩ (fun r H locs hp hS => ?_)
    obtain ⟨⟨v9, rfl⟩, hp⟩ := hp
    rcases hp with ⟨g1, hP8⟩ | ⟨p8, f8, hp8, hf8, e8, eb8, hr8, hP8⟩
    · skip
      exfalso; first | exact c1 g1 | exact g1 c1 | exact c2 g2 | exact g2 c2 | exact c3 g3 | exact g3 c3 | (have q9 := (nI_eq (by have := hI.1; have := hI.2.1; have := hI.2.2.1; omega) (by have := hI.1; have := hI.2.1; have := hI.2.2.1; omega)).mp e8; subst q9; first | exact c4 g4 | exact g4 c4)
    · skip
      have g1 : inR _ np ∧ inR _ nf := ⟨⟨p8, hp8, e8⟩, ⟨f8, hf8, eb8⟩⟩
      have q9 := (nI_eq (by have := hI.1; have := hI.2.1; have := hI.2.2.1; omega) (by have := hI.1; have := hI.2.1; have := hI.2.2.1; omega)).mp e8
      subst q9
      have q8 := (nI_eq (by have := hI.1; have := hI.2.1; have := hI.2.2.1; omega) (by have := hI.1; have := hI.2.1; have := hI.2.2.1; omega)).mp eb8
      subst q8
      have hv9 := Value.int.inj (Option.some.inj hr8)
      have ho9 : fo9 0 = v9.toInt64 := by rw [hv9]; exact ho8
      obtain ⟨w8, fr8, hH, hM8, hf8⟩ := hP8
      have hR8 := hR9.of (fun t ht => hf8 t (by unfold dm at ht; omega)) (fun _ _ => rfl)
      replace hO8 := (hf8 (20, 0, 0) (by decide)).trans hO8
      refine lv_istore (lv' := [(6, .int v9), (5, .int (nI 0)), (4, .int (nI i)), (3, .ref (al (20, 0, 0))), (2, .ref (al (10, 0, 0))), (1, .ref (al (0, 0, 0))), (0, .ref b)]) hx hb dL_law_495 hl (by decide) rfl (fun ls hl => ?_)
      refine lv_aload_n hx hb dL_law_497 rfl (lv_at hl 4 rfl) ?_
      refine lv_adr a10 ?_
      refine x_callV C hH hS (ci := 8) (t := (10, 0, 0)) hM8.1 rfl rfl (m_thrown l (E := E) (base := base) hM8 ) hH kX7_thrown qw_756 qw_757 qw_755 rfl [] rfl hl.1 (Nat.le_of_ble_eq_true rfl) ⟨(Nat.le_of_ble_eq_true rfl), (Nat.le_of_ble_eq_true rfl)⟩ dL_law_498 ⟨by show cells + 2 + 0 ≤ 601024; omega, by show slots + 12 + 0 ≤ 7293034; omega⟩ (fun r H locs hp hS => ?_)
      obtain ⟨rfl, hH⟩ := hp
      refine lv_iload hx hb dL_law_501 (lv_at hl 1 rfl) ?_
      refine lv_icmp_eq (tgt := 508) hx hb dL_law_503 (by decide) (fun c_3 => ?_) (fun c_3 => absurd (by decide +kernel) c_3)
      clear c_3
      refine lv_iload hx hb dL_law_508 (lv_at hl 1 rfl) ?_
      refine lv_if_ne (tgt := 525) hx hb dL_law_510 (by decide) (fun c_4 => absurd (by decide +kernel) c_4) (fun c_4 => ?_)
      clear c_4
      refine lv_aload_n hx hb dL_law_513 rfl (lv_at hl 3 rfl) ?_
      refine lv_iconst (v := nI 0) hx hb dL_law_514 (by decide +kernel) ?_
      refine lv_adr2 a20 ?_
      refine x_lald C hH hO8 (j := 0) rfl (by omega) (by omega) dL_law_515 ?_
      rw [ho9]
      refine lv_iload hx hb dL_law_516 (lv_at hl 0 rfl) ?_
      refine lv_i2l hx hb dL_law_518 rfl ?_
      refine lv_lcmp hx hb dL_law_519 ?_
      refine lv_re (y := nI 0) (lcv_self _) ?_
      refine lv_if_eq (tgt := 525) hx hb dL_law_520 (by decide) (fun c_5 => ?_) (fun c_5 => absurd (by decide +kernel) c_5)
      clear c_5
      refine lv_goto (tgt := 1307) hx hb dL_law_525 (by decide) ?_
      refine W.widen (k := cells + 30) (n := slots + 700) (by show cells + 2 + 0 + 0 ≤ _; omega) (by show slots + 12 + 0 + 0 ≤ _; omega) ?_
      exact kk _ _ _ ⟨al9, w8, _, _, _, _, _, _, _, fr8, _, hH, hR8, INV_rc (INV_k4 hI hpp ⟨0, by omega, rfl⟩) (rcI_out' hI), hM8, hO8, h09, a10.symm, a20.symm⟩ hS (lv_sub hl [2, 3, 4, 5, 6] rfl)

set_option maxHeartbeats 4000000 in
set_option maxRecDepth 100000 in
theorem op_finds (l : Launch) (hfl : l.stackTraces = false) {p : Program} {e : Env} {s : State} {m : MethodId} {below : List Frame} {meth : Method} {c : Code} {ret9 : Option FieldType} {E : xE} {base b L : Nat} {xs : Nat → Int32} {Q : State → Prop} (C : XC p s m #[Value.ref b] meth c "DataroomLaw" cL_law 7 ret9 E base) (hXs : va_X b L xs s s.heap) (hbl : b < s.heap.size) (hbA : ¬ xA base b) {cells slots i : Nat} (hcs : cells + 30 ≤ 601024) (hss : slots + 700 ≤ 7293034) (hi : i + 6 ≤ L) (hL : L ≤ 3072)
    {al : Tg → Nat} {w : Tg → Option va_E} {nf np na nw : Nat} {sg : Nat → Nat → Nat → Int32} {rc : Nat → Bool} {th : Int32} {fr : Nat → Int32} {fo : Nat → Int64} (hR : RM E al w nf np na nw sg rc) (hI : INV nf np na nw sg rc) (hMM : MMf E al w th nf np na nw sg rc fr) (hO : w (20, 0, 0) = some (.inl (E.2.1 1, 1, .inr (.inl fo)))) {H : Heap} {locs : List Loc} {ls : Array Slot} (hH : xH E base al w H) (hS : va_S (xA base) s.heap H locs) (hl : lv_has ls 7 [(4, .int (nI i)), (3, .ref (al (20, 0, 0))), (2, .ref (al (10, 0, 0))), (1, .ref (al (0, 0, 0))), (0, .ref b)])
    (kk : ∀ (H : Heap) (locs : List Loc) (ls : Array Slot), SI E base (al (0, 0, 0)) (al (10, 0, 0)) (al (20, 0, 0)) H → va_S (xA base) s.heap H locs → lv_has ls 7 [(4, .int (nI i)), (3, .ref (al (20, 0, 0))), (2, .ref (al (10, 0, 0))), (1, .ref (al (0, 0, 0))), (0, .ref b)] → W p l e room_1 s m #[Value.ref b] below meth c H locs (cells + 30) (slots + 700) Q (F0 m 1307 ls [])) : W p l e room_1 s m #[Value.ref b] below meth c H locs cells slots Q (F0 m 972 ls []) := by
  have hx := C.hx
  have hb := C.hb
  refine lv_aload_n hx hb dL_law_972 rfl (lv_at hl 3 rfl) ?_
  refine lv_aload_n hx hb dL_law_973 rfl (lv_at hl 4 rfl) ?_
  refine lv_iload hx hb dL_law_974 (lv_at hl 0 rfl) ?_
  refine lv_iconst (v := nI 1) hx hb dL_law_976 (by decide +kernel) ?_
  refine lv_iadd hx hb dL_law_977 ?_
  refine lv_re (nI_add _ _) ?_
  refine va_sld C.hx C.hb hXs hbl hbA hS (vp_in_nI (by omega : i + 1 < L) (by omega)) dL_law_978 ?_
  rw [nI_clamp (by omega)]
  obtain ⟨x1, hx1⟩ : ∃ z9, z9 = xs (i + 1) := ⟨_, rfl⟩
  rw [← hx1]
  refine lv_aload_n hx hb dL_law_979 rfl (lv_at hl 4 rfl) ?_
  refine lv_iload hx hb dL_law_980 (lv_at hl 0 rfl) ?_
  refine lv_iconst (v := nI 2) hx hb dL_law_982 (by decide +kernel) ?_
  refine lv_iadd hx hb dL_law_983 ?_
  refine lv_re (nI_add _ _) ?_
  refine va_sld C.hx C.hb hXs hbl hbA hS (vp_in_nI (by omega : i + 2 < L) (by omega)) dL_law_984 ?_
  rw [nI_clamp (by omega)]
  obtain ⟨x2, hx2⟩ : ∃ z9, z9 = xs (i + 2) := ⟨_, rfl⟩
  rw [← hx2]
  refine lv_aload_n hx hb dL_law_985 rfl (lv_at hl 1 rfl) ?_
  refine x_callH (k := 4) C hS (l_finds l hfl (E := E) (base := base) hR hI hO (x := x1) (z := x2)) hH qw_638 qw_0 ⟨by decide +kernel, by decide +kernel, by decide +kernel⟩ qw_637 qw_636 rfl [] rfl hl.1 (Nat.le_of_ble_eq_true rfl) ⟨(Nat.le_of_ble_eq_true rfl), (Nat.le_of_ble_eq_true rfl)⟩ dL_law_986 ⟨by show cells + 2 ≤ 601024; omega, by show slots + 12 ≤ 7293034; omega⟩ (fun r H locs hp hS => ?_)
  rcases hp with ⟨rfl, c1, hH⟩ | ⟨rfl, pp, f, hpp, hf, rfl, rfl, hP⟩
  · skip
    obtain ⟨al9, hal9⟩ : ∃ z : Tg → Nat, z = al := ⟨_, rfl⟩
    have hfa : ∀ t : Tg, 10 ≤ t.1 → al9 t = al t := fun t _ => by rw [hal9]
    have h09 : al9 (0, 0, 0) = al (0, 0, 0) := by rw [hal9]
    have hR9 := hR
    have hM9 := hMM
    have hO8 := hO
    rw [← hal9] at hH hR9 hM9
    have a10 := (hfa (10, 0, 0) (by decide)).symm
    have a20 := (hfa (20, 0, 0) (by decide)).symm
    refine lv_istore (lv' := [(5, .int (nI 1)), (4, .int (nI i)), (3, .ref (al (20, 0, 0))), (2, .ref (al (10, 0, 0))), (1, .ref (al (0, 0, 0))), (0, .ref b)]) hx hb dL_law_989 hl (by decide) rfl (fun ls hl => ?_)
    refine lv_aload_n hx hb dL_law_991 rfl (lv_at hl 3 rfl) ?_
    refine lv_aload_n hx hb dL_law_992 rfl (lv_at hl 5 rfl) ?_
    refine lv_iload hx hb dL_law_993 (lv_at hl 1 rfl) ?_
    refine lv_iconst (v := nI 1) hx hb dL_law_995 (by decide +kernel) ?_
    refine lv_iadd hx hb dL_law_996 ?_
    refine lv_re (nI_add _ _) ?_
    refine va_sld C.hx C.hb hXs hbl hbA hS (vp_in_nI (by omega : i + 1 < L) (by omega)) dL_law_997 ?_
    rw [nI_clamp (by omega)]
    rw [← hx1]
    refine lv_aload_n hx hb dL_law_998 rfl (lv_at hl 5 rfl) ?_
    refine lv_iload hx hb dL_law_999 (lv_at hl 1 rfl) ?_
    refine lv_iconst (v := nI 2) hx hb dL_law_1001 (by decide +kernel) ?_
    refine lv_iadd hx hb dL_law_1002 ?_
    refine lv_re (nI_add _ _) ?_
    refine va_sld C.hx C.hb hXs hbl hbA hS (vp_in_nI (by omega : i + 2 < L) (by omega)) dL_law_1003 ?_
    rw [nI_clamp (by omega)]
    rw [← hx2]
    refine lv_adr3 a10 ?_
    refine x_callV C hH hS (ci := 8) (t := (10, 0, 0)) hM9.1 rfl rfl (m_finds l (E := E) (base := base) hM9 hI (x := x1) (z := x2)) hH kX7_finds qw_877 qw_878 qw_876 rfl [] rfl hl.1 (Nat.le_of_ble_eq_true rfl) ⟨(Nat.le_of_ble_eq_true rfl), (Nat.le_of_ble_eq_true rfl)⟩ dL_law_1004 ⟨by show cells + 2 + 0 ≤ 601024; omega, by show slots + 12 + 0 ≤ 7293034; omega⟩ (fun r H locs hp hS => ?_)
    obtain ⟨⟨v9, rfl⟩, hp⟩ := hp
    rcases hp with ⟨g1, hP8⟩ | ⟨p8, f8, hp8, hf8, e8, eb8, hr8, hP8⟩
    · skip
      obtain ⟨w8, fr8, hH, hM8, hf8⟩ := hP8
      have hR8 := hR9.of (fun t ht => hf8 t (by unfold dm at ht; omega)) (fun _ _ => rfl)
      replace hO8 := (hf8 (20, 0, 0) (by decide)).trans hO8
      refine lv_istore (lv' := [(6, .int v9), (5, .int (nI 1)), (4, .int (nI i)), (3, .ref (al (20, 0, 0))), (2, .ref (al (10, 0, 0))), (1, .ref (al (0, 0, 0))), (0, .ref b)]) hx hb dL_law_1007 hl (by decide) rfl (fun ls hl => ?_)
      refine lv_aload_n hx hb dL_law_1009 rfl (lv_at hl 4 rfl) ?_
      refine lv_adr a10 ?_
      refine x_callV C hH hS (ci := 8) (t := (10, 0, 0)) hM8.1 rfl rfl (m_thrown l (E := E) (base := base) hM8 ) hH kX7_thrown qw_756 qw_757 qw_755 rfl [] rfl hl.1 (Nat.le_of_ble_eq_true rfl) ⟨(Nat.le_of_ble_eq_true rfl), (Nat.le_of_ble_eq_true rfl)⟩ dL_law_1010 ⟨by show cells + 2 + 0 ≤ 601024; omega, by show slots + 12 + 0 ≤ 7293034; omega⟩ (fun r H locs hp hS => ?_)
      obtain ⟨rfl, hH⟩ := hp
      refine lv_iload hx hb dL_law_1013 (lv_at hl 1 rfl) ?_
      refine lv_icmp_eq (tgt := 1020) hx hb dL_law_1015 (by decide) (fun c_1 => ?_) (fun c_1 => absurd (by decide +kernel) c_1)
      clear c_1
      refine lv_iload hx hb dL_law_1020 (lv_at hl 1 rfl) ?_
      refine lv_if_ne (tgt := 1037) hx hb dL_law_1022 (by decide) (fun c_2 => ?_) (fun c_2 => absurd c_2 (by decide +kernel))
      clear c_2
      refine lv_goto (tgt := 1307) hx hb dL_law_1037 (by decide) ?_
      refine W.widen (k := cells + 30) (n := slots + 700) (by show cells + 2 + 0 + 0 ≤ _; omega) (by show slots + 12 + 0 + 0 ≤ _; omega) ?_
      exact kk _ _ _ ⟨al9, w8, _, _, _, _, _, _, _, fr8, _, hH, hR8, hI, hM8, hO8, h09, a10.symm, a20.symm⟩ hS (lv_sub hl [2, 3, 4, 5, 6] rfl)
    · skip
      have g1 : inR _ np ∧ inR _ nf := ⟨⟨p8, hp8, e8⟩, ⟨f8, hf8, eb8⟩⟩
      exfalso; first | exact c1 g1 | exact g1 c1 | exact c2 g2 | exact g2 c2 | exact c3 g3 | exact g3 c3 | (have q9 := (nI_eq (by have := hI.1; have := hI.2.1; have := hI.2.2.1; omega) (by have := hI.1; have := hI.2.1; have := hI.2.2.1; omega)).mp e8; subst q9; first | exact c4 g4 | exact g4 c4)
  · skip
    have c1 : inR (nI pp) np ∧ inR (nI f) nf := ⟨⟨pp, hpp, rfl⟩, ⟨f, hf, rfl⟩⟩
    obtain ⟨al9, w9, fo9, hH, hR9, hO8, ho8, hfa, hfw, h09⟩ := hP
    have hM9 := hMM.mv (fun t ht => hfw t (by omega) (fun e => by rw [e] at ht; revert ht; simp)) (fun t ht => hfa t (by omega))
    have a10 := (hfa (10, 0, 0) (by decide)).symm
    have a20 := (hfa (20, 0, 0) (by decide)).symm
    refine lv_istore (lv' := [(5, .int (nI 0)), (4, .int (nI i)), (3, .ref (al (20, 0, 0))), (2, .ref (al (10, 0, 0))), (1, .ref (al (0, 0, 0))), (0, .ref b)]) hx hb dL_law_989 hl (by decide) rfl (fun ls hl => ?_)
    refine lv_aload_n hx hb dL_law_991 rfl (lv_at hl 3 rfl) ?_
    refine lv_aload_n hx hb dL_law_992 rfl (lv_at hl 5 rfl) ?_
    refine lv_iload hx hb dL_law_993 (lv_at hl 1 rfl) ?_
    refine lv_iconst (v := nI 1) hx hb dL_law_995 (by decide +kernel) ?_
    refine lv_iadd hx hb dL_law_996 ?_
    refine lv_re (nI_add _ _) ?_
    refine va_sld C.hx C.hb hXs hbl hbA hS (vp_in_nI (by omega : i + 1 < L) (by omega)) dL_law_997 ?_
    rw [nI_clamp (by omega)]
    rw [← hx1]
    refine lv_aload_n hx hb dL_law_998 rfl (lv_at hl 5 rfl) ?_
    refine lv_iload hx hb dL_law_999 (lv_at hl 1 rfl) ?_
    refine lv_iconst (v := nI 2) hx hb dL_law_1001 (by decide +kernel) ?_
    refine lv_iadd hx hb dL_law_1002 ?_
    refine lv_re (nI_add _ _) ?_
    refine va_sld C.hx C.hb hXs hbl hbA hS (vp_in_nI (by omega : i + 2 < L) (by omega)) dL_law_1003 ?_
    rw [nI_clamp (by omega)]
    rw [← hx2]
    refine lv_adr3 a10 ?_
    refine x_callV C hH hS (ci := 8) (t := (10, 0, 0)) hM9.1 rfl rfl (m_finds l (E := E) (base := base) hM9 hI (x := nI pp) (z := nI f)) hH kX7_finds qw_877 qw_878 qw_876 rfl [] rfl hl.1 (Nat.le_of_ble_eq_true rfl) ⟨(Nat.le_of_ble_eq_true rfl), (Nat.le_of_ble_eq_true rfl)⟩ dL_law_1004 ⟨by show cells + 2 + 0 ≤ 601024; omega, by show slots + 12 + 0 ≤ 7293034; omega⟩ (fun r H locs hp hS => ?_)
    obtain ⟨⟨v9, rfl⟩, hp⟩ := hp
    rcases hp with ⟨g1, hP8⟩ | ⟨p8, f8, hp8, hf8, e8, eb8, hr8, hP8⟩
    · skip
      exfalso; first | exact c1 g1 | exact g1 c1 | exact c2 g2 | exact g2 c2 | exact c3 g3 | exact g3 c3 | (have q9 := (nI_eq (by have := hI.1; have := hI.2.1; have := hI.2.2.1; omega) (by have := hI.1; have := hI.2.1; have := hI.2.2.1; omega)).mp e8; subst q9; first | exact c4 g4 | exact g4 c4)
    · skip
      have g1 : inR _ np ∧ inR _ nf := ⟨⟨p8, hp8, e8⟩, ⟨f8, hf8, eb8⟩⟩
      have q9 := (nI_eq (by have := hI.1; have := hI.2.1; have := hI.2.2.1; omega) (by have := hI.1; have := hI.2.1; have := hI.2.2.1; omega)).mp e8
      subst q9
      have q8 := (nI_eq (by have := hI.1; have := hI.2.1; have := hI.2.2.1; omega) (by have := hI.1; have := hI.2.1; have := hI.2.2.1; omega)).mp eb8
      subst q8
      have hv9 := Value.int.inj (Option.some.inj hr8)
      have ho9 : fo9 0 = v9.toInt64 := by rw [hv9]; exact ho8
      obtain ⟨w8, fr8, hH, hM8, hf8⟩ := hP8
      have hR8 := hR9.of (fun t ht => hf8 t (by unfold dm at ht; omega)) (fun _ _ => rfl)
      replace hO8 := (hf8 (20, 0, 0) (by decide)).trans hO8
      refine lv_istore (lv' := [(6, .int v9), (5, .int (nI 0)), (4, .int (nI i)), (3, .ref (al (20, 0, 0))), (2, .ref (al (10, 0, 0))), (1, .ref (al (0, 0, 0))), (0, .ref b)]) hx hb dL_law_1007 hl (by decide) rfl (fun ls hl => ?_)
      refine lv_aload_n hx hb dL_law_1009 rfl (lv_at hl 4 rfl) ?_
      refine lv_adr a10 ?_
      refine x_callV C hH hS (ci := 8) (t := (10, 0, 0)) hM8.1 rfl rfl (m_thrown l (E := E) (base := base) hM8 ) hH kX7_thrown qw_756 qw_757 qw_755 rfl [] rfl hl.1 (Nat.le_of_ble_eq_true rfl) ⟨(Nat.le_of_ble_eq_true rfl), (Nat.le_of_ble_eq_true rfl)⟩ dL_law_1010 ⟨by show cells + 2 + 0 ≤ 601024; omega, by show slots + 12 + 0 ≤ 7293034; omega⟩ (fun r H locs hp hS => ?_)
      obtain ⟨rfl, hH⟩ := hp
      refine lv_iload hx hb dL_law_1013 (lv_at hl 1 rfl) ?_
      refine lv_icmp_eq (tgt := 1020) hx hb dL_law_1015 (by decide) (fun c_3 => ?_) (fun c_3 => absurd (by decide +kernel) c_3)
      clear c_3
      refine lv_iload hx hb dL_law_1020 (lv_at hl 1 rfl) ?_
      refine lv_if_ne (tgt := 1037) hx hb dL_law_1022 (by decide) (fun c_4 => absurd (by decide +kernel) c_4) (fun c_4 => ?_)
      clear c_4
      refine lv_aload_n hx hb dL_law_1025 rfl (lv_at hl 3 rfl) ?_
      refine lv_iconst (v := nI 0) hx hb dL_law_1026 (by decide +kernel) ?_
      refine lv_adr2 a20 ?_
      refine x_lald C hH hO8 (j := 0) rfl (by omega) (by omega) dL_law_1027 ?_
      rw [ho9]
      refine lv_iload hx hb dL_law_1028 (lv_at hl 0 rfl) ?_
      refine lv_i2l hx hb dL_law_1030 rfl ?_
      refine lv_lcmp hx hb dL_law_1031 ?_
      refine lv_re (y := nI 0) (lcv_self _) ?_
      refine lv_if_eq (tgt := 1037) hx hb dL_law_1032 (by decide) (fun c_5 => ?_) (fun c_5 => absurd (by decide +kernel) c_5)
      clear c_5
      refine lv_goto (tgt := 1307) hx hb dL_law_1037 (by decide) ?_
      refine W.widen (k := cells + 30) (n := slots + 700) (by show cells + 2 + 0 + 0 ≤ _; omega) (by show slots + 12 + 0 + 0 ≤ _; omega) ?_
      exact kk _ _ _ ⟨al9, w8, _, _, _, _, _, _, _, fr8, _, hH, hR8, hI, hM8, hO8, h09, a10.symm, a20.symm⟩ hS (lv_sub hl [2, 3, 4, 5, 6] rfl)

set_option maxHeartbeats 4000000 in
set_option maxRecDepth 100000 in
theorem op_rightTo (l : Launch) (hfl : l.stackTraces = false) {p : Program} {e : Env} {s : State} {m : MethodId} {below : List Frame} {meth : Method} {c : Code} {ret9 : Option FieldType} {E : xE} {base b L : Nat} {xs : Nat → Int32} {Q : State → Prop} (C : XC p s m #[Value.ref b] meth c "DataroomLaw" cL_law 7 ret9 E base) (hXs : va_X b L xs s s.heap) (hbl : b < s.heap.size) (hbA : ¬ xA base b) {cells slots i : Nat} (hcs : cells + 30 ≤ 601024) (hss : slots + 700 ≤ 7293034) (hi : i + 6 ≤ L) (hL : L ≤ 3072)
    {al : Tg → Nat} {w : Tg → Option va_E} {nf np na nw : Nat} {sg : Nat → Nat → Nat → Int32} {rc : Nat → Bool} {th : Int32} {fr : Nat → Int32} {fo : Nat → Int64} (hR : RM E al w nf np na nw sg rc) (hI : INV nf np na nw sg rc) (hMM : MMf E al w th nf np na nw sg rc fr) (hO : w (20, 0, 0) = some (.inl (E.2.1 1, 1, .inr (.inl fo)))) {H : Heap} {locs : List Loc} {ls : Array Slot} (hH : xH E base al w H) (hS : va_S (xA base) s.heap H locs) (hl : lv_has ls 7 [(4, .int (nI i)), (3, .ref (al (20, 0, 0))), (2, .ref (al (10, 0, 0))), (1, .ref (al (0, 0, 0))), (0, .ref b)])
    (kk : ∀ (H : Heap) (locs : List Loc) (ls : Array Slot), SI E base (al (0, 0, 0)) (al (10, 0, 0)) (al (20, 0, 0)) H → va_S (xA base) s.heap H locs → lv_has ls 7 [(4, .int (nI i)), (3, .ref (al (20, 0, 0))), (2, .ref (al (10, 0, 0))), (1, .ref (al (0, 0, 0))), (0, .ref b)] → W p l e room_1 s m #[Value.ref b] below meth c H locs (cells + 30) (slots + 700) Q (F0 m 1307 ls [])) : W p l e room_1 s m #[Value.ref b] below meth c H locs cells slots Q (F0 m 1108 ls []) := by
  have hx := C.hx
  have hb := C.hb
  refine lv_aload_n hx hb dL_law_1108 rfl (lv_at hl 3 rfl) ?_
  refine lv_aload_n hx hb dL_law_1109 rfl (lv_at hl 4 rfl) ?_
  refine lv_iload hx hb dL_law_1110 (lv_at hl 0 rfl) ?_
  refine lv_iconst (v := nI 1) hx hb dL_law_1112 (by decide +kernel) ?_
  refine lv_iadd hx hb dL_law_1113 ?_
  refine lv_re (nI_add _ _) ?_
  refine va_sld C.hx C.hb hXs hbl hbA hS (vp_in_nI (by omega : i + 1 < L) (by omega)) dL_law_1114 ?_
  rw [nI_clamp (by omega)]
  obtain ⟨x1, hx1⟩ : ∃ z9, z9 = xs (i + 1) := ⟨_, rfl⟩
  rw [← hx1]
  refine lv_aload_n hx hb dL_law_1115 rfl (lv_at hl 4 rfl) ?_
  refine lv_iload hx hb dL_law_1116 (lv_at hl 0 rfl) ?_
  refine lv_iconst (v := nI 2) hx hb dL_law_1118 (by decide +kernel) ?_
  refine lv_iadd hx hb dL_law_1119 ?_
  refine lv_re (nI_add _ _) ?_
  refine va_sld C.hx C.hb hXs hbl hbA hS (vp_in_nI (by omega : i + 2 < L) (by omega)) dL_law_1120 ?_
  rw [nI_clamp (by omega)]
  obtain ⟨x2, hx2⟩ : ∃ z9, z9 = xs (i + 2) := ⟨_, rfl⟩
  rw [← hx2]
  refine lv_aload_n hx hb dL_law_1121 rfl (lv_at hl 1 rfl) ?_
  refine x_callH (k := 4) C hS (l_rightTo l hfl (E := E) (base := base) hR hI hO (x := x1) (z := x2)) hH qw_663 qw_0 ⟨by decide +kernel, by decide +kernel, by decide +kernel⟩ qw_662 qw_661 rfl [] rfl hl.1 (Nat.le_of_ble_eq_true rfl) ⟨(Nat.le_of_ble_eq_true rfl), (Nat.le_of_ble_eq_true rfl)⟩ dL_law_1122 ⟨by show cells + 2 ≤ 601024; omega, by show slots + 12 ≤ 7293034; omega⟩ (fun r H locs hp hS => ?_)
  rcases hp with ⟨rfl, c1, hH⟩ | ⟨rfl, pp, f, hpp, hf, rfl, rfl, hP⟩
  · skip
    obtain ⟨al9, hal9⟩ : ∃ z : Tg → Nat, z = al := ⟨_, rfl⟩
    have hfa : ∀ t : Tg, 10 ≤ t.1 → al9 t = al t := fun t _ => by rw [hal9]
    have h09 : al9 (0, 0, 0) = al (0, 0, 0) := by rw [hal9]
    have hR9 := hR
    have hM9 := hMM
    have hO8 := hO
    rw [← hal9] at hH hR9 hM9
    have a10 := (hfa (10, 0, 0) (by decide)).symm
    have a20 := (hfa (20, 0, 0) (by decide)).symm
    refine lv_istore (lv' := [(5, .int (nI 1)), (4, .int (nI i)), (3, .ref (al (20, 0, 0))), (2, .ref (al (10, 0, 0))), (1, .ref (al (0, 0, 0))), (0, .ref b)]) hx hb dL_law_1125 hl (by decide) rfl (fun ls hl => ?_)
    refine lv_aload_n hx hb dL_law_1127 rfl (lv_at hl 3 rfl) ?_
    refine lv_aload_n hx hb dL_law_1128 rfl (lv_at hl 5 rfl) ?_
    refine lv_iload hx hb dL_law_1129 (lv_at hl 1 rfl) ?_
    refine lv_iconst (v := nI 1) hx hb dL_law_1131 (by decide +kernel) ?_
    refine lv_iadd hx hb dL_law_1132 ?_
    refine lv_re (nI_add _ _) ?_
    refine va_sld C.hx C.hb hXs hbl hbA hS (vp_in_nI (by omega : i + 1 < L) (by omega)) dL_law_1133 ?_
    rw [nI_clamp (by omega)]
    rw [← hx1]
    refine lv_aload_n hx hb dL_law_1134 rfl (lv_at hl 5 rfl) ?_
    refine lv_iload hx hb dL_law_1135 (lv_at hl 1 rfl) ?_
    refine lv_iconst (v := nI 2) hx hb dL_law_1137 (by decide +kernel) ?_
    refine lv_iadd hx hb dL_law_1138 ?_
    refine lv_re (nI_add _ _) ?_
    refine va_sld C.hx C.hb hXs hbl hbA hS (vp_in_nI (by omega : i + 2 < L) (by omega)) dL_law_1139 ?_
    rw [nI_clamp (by omega)]
    rw [← hx2]
    refine lv_adr3 a10 ?_
    refine x_callV C hH hS (ci := 8) (t := (10, 0, 0)) hM9.1 rfl rfl (m_rightTo l (E := E) (base := base) hM9 hI (x := x1) (z := x2)) hH kX7_rightTo qw_889 qw_890 qw_888 rfl [] rfl hl.1 (Nat.le_of_ble_eq_true rfl) ⟨(Nat.le_of_ble_eq_true rfl), (Nat.le_of_ble_eq_true rfl)⟩ dL_law_1140 ⟨by show cells + 2 + 0 ≤ 601024; omega, by show slots + 12 + 0 ≤ 7293034; omega⟩ (fun r H locs hp hS => ?_)
    obtain ⟨⟨v9, rfl⟩, hp⟩ := hp
    rcases hp with ⟨g1, hP8⟩ | ⟨p8, f8, hp8, hf8, e8, eb8, hr8, hP8⟩
    · skip
      obtain ⟨w8, fr8, hH, hM8, hf8⟩ := hP8
      have hR8 := hR9.of (fun t ht => hf8 t (by unfold dm at ht; omega)) (fun _ _ => rfl)
      replace hO8 := (hf8 (20, 0, 0) (by decide)).trans hO8
      refine lv_istore (lv' := [(6, .int v9), (5, .int (nI 1)), (4, .int (nI i)), (3, .ref (al (20, 0, 0))), (2, .ref (al (10, 0, 0))), (1, .ref (al (0, 0, 0))), (0, .ref b)]) hx hb dL_law_1143 hl (by decide) rfl (fun ls hl => ?_)
      refine lv_aload_n hx hb dL_law_1145 rfl (lv_at hl 4 rfl) ?_
      refine lv_adr a10 ?_
      refine x_callV C hH hS (ci := 8) (t := (10, 0, 0)) hM8.1 rfl rfl (m_thrown l (E := E) (base := base) hM8 ) hH kX7_thrown qw_756 qw_757 qw_755 rfl [] rfl hl.1 (Nat.le_of_ble_eq_true rfl) ⟨(Nat.le_of_ble_eq_true rfl), (Nat.le_of_ble_eq_true rfl)⟩ dL_law_1146 ⟨by show cells + 2 + 0 ≤ 601024; omega, by show slots + 12 + 0 ≤ 7293034; omega⟩ (fun r H locs hp hS => ?_)
      obtain ⟨rfl, hH⟩ := hp
      refine lv_iload hx hb dL_law_1149 (lv_at hl 1 rfl) ?_
      refine lv_icmp_eq (tgt := 1156) hx hb dL_law_1151 (by decide) (fun c_1 => ?_) (fun c_1 => absurd (by decide +kernel) c_1)
      clear c_1
      refine lv_iload hx hb dL_law_1156 (lv_at hl 1 rfl) ?_
      refine lv_if_ne (tgt := 1173) hx hb dL_law_1158 (by decide) (fun c_2 => ?_) (fun c_2 => absurd c_2 (by decide +kernel))
      clear c_2
      refine lv_goto (tgt := 1307) hx hb dL_law_1173 (by decide) ?_
      refine W.widen (k := cells + 30) (n := slots + 700) (by show cells + 2 + 0 + 0 ≤ _; omega) (by show slots + 12 + 0 + 0 ≤ _; omega) ?_
      exact kk _ _ _ ⟨al9, w8, _, _, _, _, _, _, _, fr8, _, hH, hR8, hI, hM8, hO8, h09, a10.symm, a20.symm⟩ hS (lv_sub hl [2, 3, 4, 5, 6] rfl)
    · skip
      have g1 : inR _ np ∧ inR _ nf := ⟨⟨p8, hp8, e8⟩, ⟨f8, hf8, eb8⟩⟩
      exfalso; first | exact c1 g1 | exact g1 c1 | exact c2 g2 | exact g2 c2 | exact c3 g3 | exact g3 c3 | (have q9 := (nI_eq (by have := hI.1; have := hI.2.1; have := hI.2.2.1; omega) (by have := hI.1; have := hI.2.1; have := hI.2.2.1; omega)).mp e8; subst q9; first | exact c4 g4 | exact g4 c4)
  · skip
    have c1 : inR (nI pp) np ∧ inR (nI f) nf := ⟨⟨pp, hpp, rfl⟩, ⟨f, hf, rfl⟩⟩
    obtain ⟨al9, w9, fo9, hH, hR9, hO8, ho8, hfa, hfw, h09⟩ := hP
    have hM9 := hMM.mv (fun t ht => hfw t (by omega) (fun e => by rw [e] at ht; revert ht; simp)) (fun t ht => hfa t (by omega))
    have a10 := (hfa (10, 0, 0) (by decide)).symm
    have a20 := (hfa (20, 0, 0) (by decide)).symm
    refine lv_istore (lv' := [(5, .int (nI 0)), (4, .int (nI i)), (3, .ref (al (20, 0, 0))), (2, .ref (al (10, 0, 0))), (1, .ref (al (0, 0, 0))), (0, .ref b)]) hx hb dL_law_1125 hl (by decide) rfl (fun ls hl => ?_)
    refine lv_aload_n hx hb dL_law_1127 rfl (lv_at hl 3 rfl) ?_
    refine lv_aload_n hx hb dL_law_1128 rfl (lv_at hl 5 rfl) ?_
    refine lv_iload hx hb dL_law_1129 (lv_at hl 1 rfl) ?_
    refine lv_iconst (v := nI 1) hx hb dL_law_1131 (by decide +kernel) ?_
    refine lv_iadd hx hb dL_law_1132 ?_
    refine lv_re (nI_add _ _) ?_
    refine va_sld C.hx C.hb hXs hbl hbA hS (vp_in_nI (by omega : i + 1 < L) (by omega)) dL_law_1133 ?_
    rw [nI_clamp (by omega)]
    rw [← hx1]
    refine lv_aload_n hx hb dL_law_1134 rfl (lv_at hl 5 rfl) ?_
    refine lv_iload hx hb dL_law_1135 (lv_at hl 1 rfl) ?_
    refine lv_iconst (v := nI 2) hx hb dL_law_1137 (by decide +kernel) ?_
    refine lv_iadd hx hb dL_law_1138 ?_
    refine lv_re (nI_add _ _) ?_
    refine va_sld C.hx C.hb hXs hbl hbA hS (vp_in_nI (by omega : i + 2 < L) (by omega)) dL_law_1139 ?_
    rw [nI_clamp (by omega)]
    rw [← hx2]
    refine lv_adr3 a10 ?_
    refine x_callV C hH hS (ci := 8) (t := (10, 0, 0)) hM9.1 rfl rfl (m_rightTo l (E := E) (base := base) hM9 hI (x := nI pp) (z := nI f)) hH kX7_rightTo qw_889 qw_890 qw_888 rfl [] rfl hl.1 (Nat.le_of_ble_eq_true rfl) ⟨(Nat.le_of_ble_eq_true rfl), (Nat.le_of_ble_eq_true rfl)⟩ dL_law_1140 ⟨by show cells + 2 + 0 ≤ 601024; omega, by show slots + 12 + 0 ≤ 7293034; omega⟩ (fun r H locs hp hS => ?_)
    obtain ⟨⟨v9, rfl⟩, hp⟩ := hp
    rcases hp with ⟨g1, hP8⟩ | ⟨p8, f8, hp8, hf8, e8, eb8, hr8, hP8⟩
    · skip
      exfalso; first | exact c1 g1 | exact g1 c1 | exact c2 g2 | exact g2 c2 | exact c3 g3 | exact g3 c3 | (have q9 := (nI_eq (by have := hI.1; have := hI.2.1; have := hI.2.2.1; omega) (by have := hI.1; have := hI.2.1; have := hI.2.2.1; omega)).mp e8; subst q9; first | exact c4 g4 | exact g4 c4)
    · skip
      have g1 : inR _ np ∧ inR _ nf := ⟨⟨p8, hp8, e8⟩, ⟨f8, hf8, eb8⟩⟩
      have q9 := (nI_eq (by have := hI.1; have := hI.2.1; have := hI.2.2.1; omega) (by have := hI.1; have := hI.2.1; have := hI.2.2.1; omega)).mp e8
      subst q9
      have q8 := (nI_eq (by have := hI.1; have := hI.2.1; have := hI.2.2.1; omega) (by have := hI.1; have := hI.2.1; have := hI.2.2.1; omega)).mp eb8
      subst q8
      have hv9 := Value.int.inj (Option.some.inj hr8)
      have ho9 : fo9 0 = v9.toInt64 := by rw [hv9]; exact ho8
      obtain ⟨w8, fr8, hH, hM8, hf8⟩ := hP8
      have hR8 := hR9.of (fun t ht => hf8 t (by unfold dm at ht; omega)) (fun _ _ => rfl)
      replace hO8 := (hf8 (20, 0, 0) (by decide)).trans hO8
      refine lv_istore (lv' := [(6, .int v9), (5, .int (nI 0)), (4, .int (nI i)), (3, .ref (al (20, 0, 0))), (2, .ref (al (10, 0, 0))), (1, .ref (al (0, 0, 0))), (0, .ref b)]) hx hb dL_law_1143 hl (by decide) rfl (fun ls hl => ?_)
      refine lv_aload_n hx hb dL_law_1145 rfl (lv_at hl 4 rfl) ?_
      refine lv_adr a10 ?_
      refine x_callV C hH hS (ci := 8) (t := (10, 0, 0)) hM8.1 rfl rfl (m_thrown l (E := E) (base := base) hM8 ) hH kX7_thrown qw_756 qw_757 qw_755 rfl [] rfl hl.1 (Nat.le_of_ble_eq_true rfl) ⟨(Nat.le_of_ble_eq_true rfl), (Nat.le_of_ble_eq_true rfl)⟩ dL_law_1146 ⟨by show cells + 2 + 0 ≤ 601024; omega, by show slots + 12 + 0 ≤ 7293034; omega⟩ (fun r H locs hp hS => ?_)
      obtain ⟨rfl, hH⟩ := hp
      refine lv_iload hx hb dL_law_1149 (lv_at hl 1 rfl) ?_
      refine lv_icmp_eq (tgt := 1156) hx hb dL_law_1151 (by decide) (fun c_3 => ?_) (fun c_3 => absurd (by decide +kernel) c_3)
      clear c_3
      refine lv_iload hx hb dL_law_1156 (lv_at hl 1 rfl) ?_
      refine lv_if_ne (tgt := 1173) hx hb dL_law_1158 (by decide) (fun c_4 => absurd (by decide +kernel) c_4) (fun c_4 => ?_)
      clear c_4
      refine lv_aload_n hx hb dL_law_1161 rfl (lv_at hl 3 rfl) ?_
      refine lv_iconst (v := nI 0) hx hb dL_law_1162 (by decide +kernel) ?_
      refine lv_adr2 a20 ?_
      refine x_lald C hH hO8 (j := 0) rfl (by omega) (by omega) dL_law_1163 ?_
      rw [ho9]
      refine lv_iload hx hb dL_law_1164 (lv_at hl 0 rfl) ?_
      refine lv_i2l hx hb dL_law_1166 rfl ?_
      refine lv_lcmp hx hb dL_law_1167 ?_
      refine lv_re (y := nI 0) (lcv_self _) ?_
      refine lv_if_eq (tgt := 1173) hx hb dL_law_1168 (by decide) (fun c_5 => ?_) (fun c_5 => absurd (by decide +kernel) c_5)
      clear c_5
      refine lv_goto (tgt := 1307) hx hb dL_law_1173 (by decide) ?_
      refine W.widen (k := cells + 30) (n := slots + 700) (by show cells + 2 + 0 + 0 ≤ _; omega) (by show slots + 12 + 0 + 0 ≤ _; omega) ?_
      exact kk _ _ _ ⟨al9, w8, _, _, _, _, _, _, _, fr8, _, hH, hR8, hI, hM8, hO8, h09, a10.symm, a20.symm⟩ hS (lv_sub hl [2, 3, 4, 5, 6] rfl)

set_option maxHeartbeats 4000000 in
set_option maxRecDepth 100000 in
theorem op_spent (l : Launch) (hfl : l.stackTraces = false) {p : Program} {e : Env} {s : State} {m : MethodId} {below : List Frame} {meth : Method} {c : Code} {ret9 : Option FieldType} {E : xE} {base b L : Nat} {xs : Nat → Int32} {Q : State → Prop} (C : XC p s m #[Value.ref b] meth c "DataroomLaw" cL_law 7 ret9 E base) (hXs : va_X b L xs s s.heap) (hbl : b < s.heap.size) (hbA : ¬ xA base b) {cells slots i : Nat} (hcs : cells + 30 ≤ 601024) (hss : slots + 700 ≤ 7293034) (hi : i + 6 ≤ L) (hL : L ≤ 3072)
    {al : Tg → Nat} {w : Tg → Option va_E} {nf np na nw : Nat} {sg : Nat → Nat → Nat → Int32} {rc : Nat → Bool} {th : Int32} {fr : Nat → Int32} {fo : Nat → Int64} (hR : RM E al w nf np na nw sg rc) (hI : INV nf np na nw sg rc) (hMM : MMf E al w th nf np na nw sg rc fr) (hO : w (20, 0, 0) = some (.inl (E.2.1 1, 1, .inr (.inl fo)))) {H : Heap} {locs : List Loc} {ls : Array Slot} (hH : xH E base al w H) (hS : va_S (xA base) s.heap H locs) (hl : lv_has ls 7 [(4, .int (nI i)), (3, .ref (al (20, 0, 0))), (2, .ref (al (10, 0, 0))), (1, .ref (al (0, 0, 0))), (0, .ref b)])
    (kk : ∀ (H : Heap) (locs : List Loc) (ls : Array Slot), SI E base (al (0, 0, 0)) (al (10, 0, 0)) (al (20, 0, 0)) H → va_S (xA base) s.heap H locs → lv_has ls 7 [(4, .int (nI i)), (3, .ref (al (20, 0, 0))), (2, .ref (al (10, 0, 0))), (1, .ref (al (0, 0, 0))), (0, .ref b)] → W p l e room_1 s m #[Value.ref b] below meth c H locs (cells + 30) (slots + 700) Q (F0 m 1307 ls [])) : W p l e room_1 s m #[Value.ref b] below meth c H locs cells slots Q (F0 m 860 ls []) := by
  have hx := C.hx
  have hb := C.hb
  refine lv_aload_n hx hb dL_law_860 rfl (lv_at hl 3 rfl) ?_
  refine lv_aload_n hx hb dL_law_861 rfl (lv_at hl 4 rfl) ?_
  refine lv_iload hx hb dL_law_862 (lv_at hl 0 rfl) ?_
  refine lv_iconst (v := nI 1) hx hb dL_law_864 (by decide +kernel) ?_
  refine lv_iadd hx hb dL_law_865 ?_
  refine lv_re (nI_add _ _) ?_
  refine va_sld C.hx C.hb hXs hbl hbA hS (vp_in_nI (by omega : i + 1 < L) (by omega)) dL_law_866 ?_
  rw [nI_clamp (by omega)]
  obtain ⟨x1, hx1⟩ : ∃ z9, z9 = xs (i + 1) := ⟨_, rfl⟩
  rw [← hx1]
  refine lv_aload_n hx hb dL_law_867 rfl (lv_at hl 1 rfl) ?_
  refine x_callH (k := 3) C hS (l_spent l hfl (E := E) (base := base) hR hI hO (x := x1)) hH qw_586 qw_0 ⟨by decide +kernel, by decide +kernel, by decide +kernel⟩ qw_585 qw_584 rfl [] rfl hl.1 (Nat.le_of_ble_eq_true rfl) ⟨(Nat.le_of_ble_eq_true rfl), (Nat.le_of_ble_eq_true rfl)⟩ dL_law_868 ⟨by show cells + 1 ≤ 601024; omega, by show slots + 6 ≤ 7293034; omega⟩ (fun r H locs hp hS => ?_)
  rcases hp with ⟨rfl, c1, hH⟩ | ⟨rfl, pp, hpp, rfl, hP⟩
  · skip
    obtain ⟨al9, hal9⟩ : ∃ z : Tg → Nat, z = al := ⟨_, rfl⟩
    have hfa : ∀ t : Tg, 10 ≤ t.1 → al9 t = al t := fun t _ => by rw [hal9]
    have h09 : al9 (0, 0, 0) = al (0, 0, 0) := by rw [hal9]
    have hR9 := hR
    have hM9 := hMM
    have hO8 := hO
    rw [← hal9] at hH hR9 hM9
    have a10 := (hfa (10, 0, 0) (by decide)).symm
    have a20 := (hfa (20, 0, 0) (by decide)).symm
    refine lv_istore (lv' := [(5, .int (nI 1)), (4, .int (nI i)), (3, .ref (al (20, 0, 0))), (2, .ref (al (10, 0, 0))), (1, .ref (al (0, 0, 0))), (0, .ref b)]) hx hb dL_law_871 hl (by decide) rfl (fun ls hl => ?_)
    refine lv_aload_n hx hb dL_law_873 rfl (lv_at hl 3 rfl) ?_
    refine lv_aload_n hx hb dL_law_874 rfl (lv_at hl 5 rfl) ?_
    refine lv_iload hx hb dL_law_875 (lv_at hl 1 rfl) ?_
    refine lv_iconst (v := nI 1) hx hb dL_law_877 (by decide +kernel) ?_
    refine lv_iadd hx hb dL_law_878 ?_
    refine lv_re (nI_add _ _) ?_
    refine va_sld C.hx C.hb hXs hbl hbA hS (vp_in_nI (by omega : i + 1 < L) (by omega)) dL_law_879 ?_
    rw [nI_clamp (by omega)]
    rw [← hx1]
    refine lv_adr2 a10 ?_
    refine x_callV C hH hS (ci := 8) (t := (10, 0, 0)) hM9.1 rfl rfl (m_spent l (E := E) (base := base) hM9 hI (x := x1)) hH kX7_spent qw_869 qw_870 qw_868 rfl [] rfl hl.1 (Nat.le_of_ble_eq_true rfl) ⟨(Nat.le_of_ble_eq_true rfl), (Nat.le_of_ble_eq_true rfl)⟩ dL_law_880 ⟨by show cells + 1 + 0 ≤ 601024; omega, by show slots + 6 + 0 ≤ 7293034; omega⟩ (fun r H locs hp hS => ?_)
    obtain ⟨⟨v9, rfl⟩, hp⟩ := hp
    rcases hp with ⟨g1, hP8⟩ | ⟨p8, hp8, e8, hr8, hP8⟩
    · skip
      obtain ⟨w8, fr8, hH, hM8, hf8⟩ := hP8
      have hR8 := hR9.of (fun t ht => hf8 t (by unfold dm at ht; omega)) (fun _ _ => rfl)
      replace hO8 := (hf8 (20, 0, 0) (by decide)).trans hO8
      refine lv_istore (lv' := [(6, .int v9), (5, .int (nI 1)), (4, .int (nI i)), (3, .ref (al (20, 0, 0))), (2, .ref (al (10, 0, 0))), (1, .ref (al (0, 0, 0))), (0, .ref b)]) hx hb dL_law_883 hl (by decide) rfl (fun ls hl => ?_)
      refine lv_aload_n hx hb dL_law_885 rfl (lv_at hl 4 rfl) ?_
      refine lv_adr a10 ?_
      refine x_callV C hH hS (ci := 8) (t := (10, 0, 0)) hM8.1 rfl rfl (m_thrown l (E := E) (base := base) hM8 ) hH kX7_thrown qw_756 qw_757 qw_755 rfl [] rfl hl.1 (Nat.le_of_ble_eq_true rfl) ⟨(Nat.le_of_ble_eq_true rfl), (Nat.le_of_ble_eq_true rfl)⟩ dL_law_886 ⟨by show cells + 1 + 0 ≤ 601024; omega, by show slots + 6 + 0 ≤ 7293034; omega⟩ (fun r H locs hp hS => ?_)
      obtain ⟨rfl, hH⟩ := hp
      refine lv_iload hx hb dL_law_889 (lv_at hl 1 rfl) ?_
      refine lv_icmp_eq (tgt := 896) hx hb dL_law_891 (by decide) (fun c_1 => ?_) (fun c_1 => absurd (by decide +kernel) c_1)
      clear c_1
      refine lv_iload hx hb dL_law_896 (lv_at hl 1 rfl) ?_
      refine lv_if_ne (tgt := 913) hx hb dL_law_898 (by decide) (fun c_2 => ?_) (fun c_2 => absurd c_2 (by decide +kernel))
      clear c_2
      refine lv_goto (tgt := 1307) hx hb dL_law_913 (by decide) ?_
      refine W.widen (k := cells + 30) (n := slots + 700) (by show cells + 1 + 0 + 0 ≤ _; omega) (by show slots + 6 + 0 + 0 ≤ _; omega) ?_
      exact kk _ _ _ ⟨al9, w8, _, _, _, _, _, _, _, fr8, _, hH, hR8, hI, hM8, hO8, h09, a10.symm, a20.symm⟩ hS (lv_sub hl [2, 3, 4, 5, 6] rfl)
    · skip
      have g1 : inR _ np := ⟨p8, hp8, e8⟩
      exfalso; first | exact c1 g1 | exact g1 c1 | exact c2 g2 | exact g2 c2 | exact c3 g3 | exact g3 c3 | (have q9 := (nI_eq (by have := hI.1; have := hI.2.1; have := hI.2.2.1; omega) (by have := hI.1; have := hI.2.1; have := hI.2.2.1; omega)).mp e8; subst q9; first | exact c4 g4 | exact g4 c4)
  · skip
    have c1 : inR (nI pp) np := ⟨pp, hpp, rfl⟩
    obtain ⟨al9, w9, fo9, hH, hR9, hO8, ho8, hfa, hfw, h09⟩ := hP
    have hM9 := hMM.mv (fun t ht => hfw t (by omega) (fun e => by rw [e] at ht; revert ht; simp)) (fun t ht => hfa t (by omega))
    have a10 := (hfa (10, 0, 0) (by decide)).symm
    have a20 := (hfa (20, 0, 0) (by decide)).symm
    refine lv_istore (lv' := [(5, .int (nI 0)), (4, .int (nI i)), (3, .ref (al (20, 0, 0))), (2, .ref (al (10, 0, 0))), (1, .ref (al (0, 0, 0))), (0, .ref b)]) hx hb dL_law_871 hl (by decide) rfl (fun ls hl => ?_)
    refine lv_aload_n hx hb dL_law_873 rfl (lv_at hl 3 rfl) ?_
    refine lv_aload_n hx hb dL_law_874 rfl (lv_at hl 5 rfl) ?_
    refine lv_iload hx hb dL_law_875 (lv_at hl 1 rfl) ?_
    refine lv_iconst (v := nI 1) hx hb dL_law_877 (by decide +kernel) ?_
    refine lv_iadd hx hb dL_law_878 ?_
    refine lv_re (nI_add _ _) ?_
    refine va_sld C.hx C.hb hXs hbl hbA hS (vp_in_nI (by omega : i + 1 < L) (by omega)) dL_law_879 ?_
    rw [nI_clamp (by omega)]
    rw [← hx1]
    refine lv_adr2 a10 ?_
    refine x_callV C hH hS (ci := 8) (t := (10, 0, 0)) hM9.1 rfl rfl (m_spent l (E := E) (base := base) hM9 hI (x := nI pp)) hH kX7_spent qw_869 qw_870 qw_868 rfl [] rfl hl.1 (Nat.le_of_ble_eq_true rfl) ⟨(Nat.le_of_ble_eq_true rfl), (Nat.le_of_ble_eq_true rfl)⟩ dL_law_880 ⟨by show cells + 1 + 0 ≤ 601024; omega, by show slots + 6 + 0 ≤ 7293034; omega⟩ (fun r H locs hp hS => ?_)
    obtain ⟨⟨v9, rfl⟩, hp⟩ := hp
    rcases hp with ⟨g1, hP8⟩ | ⟨p8, hp8, e8, hr8, hP8⟩
    · skip
      exfalso; first | exact c1 g1 | exact g1 c1 | exact c2 g2 | exact g2 c2 | exact c3 g3 | exact g3 c3 | (have q9 := (nI_eq (by have := hI.1; have := hI.2.1; have := hI.2.2.1; omega) (by have := hI.1; have := hI.2.1; have := hI.2.2.1; omega)).mp e8; subst q9; first | exact c4 g4 | exact g4 c4)
    · skip
      have g1 : inR _ np := ⟨p8, hp8, e8⟩
      have q9 := (nI_eq (by have := hI.1; have := hI.2.1; have := hI.2.2.1; omega) (by have := hI.1; have := hI.2.1; have := hI.2.2.1; omega)).mp e8
      subst q9
      have hv9 := Value.int.inj (Option.some.inj hr8)
      have ho9 : fo9 0 = v9.toInt64 := by rw [hv9]; exact ho8
      obtain ⟨w8, fr8, hH, hM8, hf8⟩ := hP8
      have hR8 := hR9.of (fun t ht => hf8 t (by unfold dm at ht; omega)) (fun _ _ => rfl)
      replace hO8 := (hf8 (20, 0, 0) (by decide)).trans hO8
      refine lv_istore (lv' := [(6, .int v9), (5, .int (nI 0)), (4, .int (nI i)), (3, .ref (al (20, 0, 0))), (2, .ref (al (10, 0, 0))), (1, .ref (al (0, 0, 0))), (0, .ref b)]) hx hb dL_law_883 hl (by decide) rfl (fun ls hl => ?_)
      refine lv_aload_n hx hb dL_law_885 rfl (lv_at hl 4 rfl) ?_
      refine lv_adr a10 ?_
      refine x_callV C hH hS (ci := 8) (t := (10, 0, 0)) hM8.1 rfl rfl (m_thrown l (E := E) (base := base) hM8 ) hH kX7_thrown qw_756 qw_757 qw_755 rfl [] rfl hl.1 (Nat.le_of_ble_eq_true rfl) ⟨(Nat.le_of_ble_eq_true rfl), (Nat.le_of_ble_eq_true rfl)⟩ dL_law_886 ⟨by show cells + 1 + 0 ≤ 601024; omega, by show slots + 6 + 0 ≤ 7293034; omega⟩ (fun r H locs hp hS => ?_)
      obtain ⟨rfl, hH⟩ := hp
      refine lv_iload hx hb dL_law_889 (lv_at hl 1 rfl) ?_
      refine lv_icmp_eq (tgt := 896) hx hb dL_law_891 (by decide) (fun c_3 => ?_) (fun c_3 => absurd (by decide +kernel) c_3)
      clear c_3
      refine lv_iload hx hb dL_law_896 (lv_at hl 1 rfl) ?_
      refine lv_if_ne (tgt := 913) hx hb dL_law_898 (by decide) (fun c_4 => absurd (by decide +kernel) c_4) (fun c_4 => ?_)
      clear c_4
      refine lv_aload_n hx hb dL_law_901 rfl (lv_at hl 3 rfl) ?_
      refine lv_iconst (v := nI 0) hx hb dL_law_902 (by decide +kernel) ?_
      refine lv_adr2 a20 ?_
      refine x_lald C hH hO8 (j := 0) rfl (by omega) (by omega) dL_law_903 ?_
      rw [ho9]
      refine lv_iload hx hb dL_law_904 (lv_at hl 0 rfl) ?_
      refine lv_i2l hx hb dL_law_906 rfl ?_
      refine lv_lcmp hx hb dL_law_907 ?_
      refine lv_re (y := nI 0) (lcv_self _) ?_
      refine lv_if_eq (tgt := 913) hx hb dL_law_908 (by decide) (fun c_5 => ?_) (fun c_5 => absurd (by decide +kernel) c_5)
      clear c_5
      refine lv_goto (tgt := 1307) hx hb dL_law_913 (by decide) ?_
      refine W.widen (k := cells + 30) (n := slots + 700) (by show cells + 1 + 0 + 0 ≤ _; omega) (by show slots + 6 + 0 + 0 ≤ _; omega) ?_
      exact kk _ _ _ ⟨al9, w8, _, _, _, _, _, _, _, fr8, _, hH, hR8, hI, hM8, hO8, h09, a10.symm, a20.symm⟩ hS (lv_sub hl [2, 3, 4, 5, 6] rfl)

set_option maxHeartbeats 4000000 in
set_option maxRecDepth 100000 in
theorem op_spentAnew (l : Launch) (hfl : l.stackTraces = false) {p : Program} {e : Env} {s : State} {m : MethodId} {below : List Frame} {meth : Method} {c : Code} {ret9 : Option FieldType} {E : xE} {base b L : Nat} {xs : Nat → Int32} {Q : State → Prop} (C : XC p s m #[Value.ref b] meth c "DataroomLaw" cL_law 7 ret9 E base) (hXs : va_X b L xs s s.heap) (hbl : b < s.heap.size) (hbA : ¬ xA base b) {cells slots i : Nat} (hcs : cells + 30 ≤ 601024) (hss : slots + 700 ≤ 7293034) (hi : i + 6 ≤ L) (hL : L ≤ 3072)
    {al : Tg → Nat} {w : Tg → Option va_E} {nf np na nw : Nat} {sg : Nat → Nat → Nat → Int32} {rc : Nat → Bool} {th : Int32} {fr : Nat → Int32} {fo : Nat → Int64} (hR : RM E al w nf np na nw sg rc) (hI : INV nf np na nw sg rc) (hMM : MMf E al w th nf np na nw sg rc fr) (hO : w (20, 0, 0) = some (.inl (E.2.1 1, 1, .inr (.inl fo)))) {H : Heap} {locs : List Loc} {ls : Array Slot} (hH : xH E base al w H) (hS : va_S (xA base) s.heap H locs) (hl : lv_has ls 7 [(4, .int (nI i)), (3, .ref (al (20, 0, 0))), (2, .ref (al (10, 0, 0))), (1, .ref (al (0, 0, 0))), (0, .ref b)])
    (kk : ∀ (H : Heap) (locs : List Loc) (ls : Array Slot), SI E base (al (0, 0, 0)) (al (10, 0, 0)) (al (20, 0, 0)) H → va_S (xA base) s.heap H locs → lv_has ls 7 [(4, .int (nI i)), (3, .ref (al (20, 0, 0))), (2, .ref (al (10, 0, 0))), (1, .ref (al (0, 0, 0))), (0, .ref b)] → W p l e room_1 s m #[Value.ref b] below meth c H locs (cells + 30) (slots + 700) Q (F0 m 1307 ls [])) : W p l e room_1 s m #[Value.ref b] below meth c H locs cells slots Q (F0 m 916 ls []) := by
  have hx := C.hx
  have hb := C.hb
  refine lv_aload_n hx hb dL_law_916 rfl (lv_at hl 3 rfl) ?_
  refine lv_aload_n hx hb dL_law_917 rfl (lv_at hl 4 rfl) ?_
  refine lv_iload hx hb dL_law_918 (lv_at hl 0 rfl) ?_
  refine lv_iconst (v := nI 1) hx hb dL_law_920 (by decide +kernel) ?_
  refine lv_iadd hx hb dL_law_921 ?_
  refine lv_re (nI_add _ _) ?_
  refine va_sld C.hx C.hb hXs hbl hbA hS (vp_in_nI (by omega : i + 1 < L) (by omega)) dL_law_922 ?_
  rw [nI_clamp (by omega)]
  obtain ⟨x1, hx1⟩ : ∃ z9, z9 = xs (i + 1) := ⟨_, rfl⟩
  rw [← hx1]
  refine lv_aload_n hx hb dL_law_923 rfl (lv_at hl 1 rfl) ?_
  refine x_callH (k := 3) C hS (l_spentAnew l hfl (E := E) (base := base) hR hI hO (x := x1)) hH qw_593 qw_0 ⟨by decide +kernel, by decide +kernel, by decide +kernel⟩ qw_592 qw_591 rfl [] rfl hl.1 (Nat.le_of_ble_eq_true rfl) ⟨(Nat.le_of_ble_eq_true rfl), (Nat.le_of_ble_eq_true rfl)⟩ dL_law_924 ⟨by show cells + 1 ≤ 601024; omega, by show slots + 6 ≤ 7293034; omega⟩ (fun r H locs hp hS => ?_)
  rcases hp with ⟨rfl, c1, hH⟩ | ⟨rfl, pp, hpp, rfl, hP⟩
  · skip
    obtain ⟨al9, hal9⟩ : ∃ z : Tg → Nat, z = al := ⟨_, rfl⟩
    have hfa : ∀ t : Tg, 10 ≤ t.1 → al9 t = al t := fun t _ => by rw [hal9]
    have h09 : al9 (0, 0, 0) = al (0, 0, 0) := by rw [hal9]
    have hR9 := hR
    have hM9 := hMM
    have hO8 := hO
    rw [← hal9] at hH hR9 hM9
    have a10 := (hfa (10, 0, 0) (by decide)).symm
    have a20 := (hfa (20, 0, 0) (by decide)).symm
    refine lv_istore (lv' := [(5, .int (nI 1)), (4, .int (nI i)), (3, .ref (al (20, 0, 0))), (2, .ref (al (10, 0, 0))), (1, .ref (al (0, 0, 0))), (0, .ref b)]) hx hb dL_law_927 hl (by decide) rfl (fun ls hl => ?_)
    refine lv_aload_n hx hb dL_law_929 rfl (lv_at hl 3 rfl) ?_
    refine lv_aload_n hx hb dL_law_930 rfl (lv_at hl 5 rfl) ?_
    refine lv_iload hx hb dL_law_931 (lv_at hl 1 rfl) ?_
    refine lv_iconst (v := nI 1) hx hb dL_law_933 (by decide +kernel) ?_
    refine lv_iadd hx hb dL_law_934 ?_
    refine lv_re (nI_add _ _) ?_
    refine va_sld C.hx C.hb hXs hbl hbA hS (vp_in_nI (by omega : i + 1 < L) (by omega)) dL_law_935 ?_
    rw [nI_clamp (by omega)]
    rw [← hx1]
    refine lv_adr2 a10 ?_
    refine x_callV C hH hS (ci := 8) (t := (10, 0, 0)) hM9.1 rfl rfl (m_spentAnew l (E := E) (base := base) hM9 hI (x := x1)) hH kX7_spentAnew qw_873 qw_874 qw_872 rfl [] rfl hl.1 (Nat.le_of_ble_eq_true rfl) ⟨(Nat.le_of_ble_eq_true rfl), (Nat.le_of_ble_eq_true rfl)⟩ dL_law_936 ⟨by show cells + 1 + 0 ≤ 601024; omega, by show slots + 6 + 0 ≤ 7293034; omega⟩ (fun r H locs hp hS => ?_)
    obtain ⟨⟨v9, rfl⟩, hp⟩ := hp
    rcases hp with ⟨g1, hP8⟩ | ⟨p8, hp8, e8, hr8, hP8⟩
    · skip
      obtain ⟨w8, fr8, hH, hM8, hf8⟩ := hP8
      have hR8 := hR9.of (fun t ht => hf8 t (by unfold dm at ht; omega)) (fun _ _ => rfl)
      replace hO8 := (hf8 (20, 0, 0) (by decide)).trans hO8
      refine lv_istore (lv' := [(6, .int v9), (5, .int (nI 1)), (4, .int (nI i)), (3, .ref (al (20, 0, 0))), (2, .ref (al (10, 0, 0))), (1, .ref (al (0, 0, 0))), (0, .ref b)]) hx hb dL_law_939 hl (by decide) rfl (fun ls hl => ?_)
      refine lv_aload_n hx hb dL_law_941 rfl (lv_at hl 4 rfl) ?_
      refine lv_adr a10 ?_
      refine x_callV C hH hS (ci := 8) (t := (10, 0, 0)) hM8.1 rfl rfl (m_thrown l (E := E) (base := base) hM8 ) hH kX7_thrown qw_756 qw_757 qw_755 rfl [] rfl hl.1 (Nat.le_of_ble_eq_true rfl) ⟨(Nat.le_of_ble_eq_true rfl), (Nat.le_of_ble_eq_true rfl)⟩ dL_law_942 ⟨by show cells + 1 + 0 ≤ 601024; omega, by show slots + 6 + 0 ≤ 7293034; omega⟩ (fun r H locs hp hS => ?_)
      obtain ⟨rfl, hH⟩ := hp
      refine lv_iload hx hb dL_law_945 (lv_at hl 1 rfl) ?_
      refine lv_icmp_eq (tgt := 952) hx hb dL_law_947 (by decide) (fun c_1 => ?_) (fun c_1 => absurd (by decide +kernel) c_1)
      clear c_1
      refine lv_iload hx hb dL_law_952 (lv_at hl 1 rfl) ?_
      refine lv_if_ne (tgt := 969) hx hb dL_law_954 (by decide) (fun c_2 => ?_) (fun c_2 => absurd c_2 (by decide +kernel))
      clear c_2
      refine lv_goto (tgt := 1307) hx hb dL_law_969 (by decide) ?_
      refine W.widen (k := cells + 30) (n := slots + 700) (by show cells + 1 + 0 + 0 ≤ _; omega) (by show slots + 6 + 0 + 0 ≤ _; omega) ?_
      exact kk _ _ _ ⟨al9, w8, _, _, _, _, _, _, _, fr8, _, hH, hR8, hI, hM8, hO8, h09, a10.symm, a20.symm⟩ hS (lv_sub hl [2, 3, 4, 5, 6] rfl)
    · skip
      have g1 : inR _ np := ⟨p8, hp8, e8⟩
      exfalso; first | exact c1 g1 | exact g1 c1 | exact c2 g2 | exact g2 c2 | exact c3 g3 | exact g3 c3 | (have q9 := (nI_eq (by have := hI.1; have := hI.2.1; have := hI.2.2.1; omega) (by have := hI.1; have := hI.2.1; have := hI.2.2.1; omega)).mp e8; subst q9; first | exact c4 g4 | exact g4 c4)
  · skip
    have c1 : inR (nI pp) np := ⟨pp, hpp, rfl⟩
    obtain ⟨al9, w9, fo9, hH, hR9, hO8, ho8, hfa, hfw, h09⟩ := hP
    have hM9 := hMM.mv (fun t ht => hfw t (by omega) (fun e => by rw [e] at ht; revert ht; simp)) (fun t ht => hfa t (by omega))
    have a10 := (hfa (10, 0, 0) (by decide)).symm
    have a20 := (hfa (20, 0, 0) (by decide)).symm
    refine lv_istore (lv' := [(5, .int (nI 0)), (4, .int (nI i)), (3, .ref (al (20, 0, 0))), (2, .ref (al (10, 0, 0))), (1, .ref (al (0, 0, 0))), (0, .ref b)]) hx hb dL_law_927 hl (by decide) rfl (fun ls hl => ?_)
    refine lv_aload_n hx hb dL_law_929 rfl (lv_at hl 3 rfl) ?_
    refine lv_aload_n hx hb dL_law_930 rfl (lv_at hl 5 rfl) ?_
    refine lv_iload hx hb dL_law_931 (lv_at hl 1 rfl) ?_
    refine lv_iconst (v := nI 1) hx hb dL_law_933 (by decide +kernel) ?_
    refine lv_iadd hx hb dL_law_934 ?_
    refine lv_re (nI_add _ _) ?_
    refine va_sld C.hx C.hb hXs hbl hbA hS (vp_in_nI (by omega : i + 1 < L) (by omega)) dL_law_935 ?_
    rw [nI_clamp (by omega)]
    rw [← hx1]
    refine lv_adr2 a10 ?_
    refine x_callV C hH hS (ci := 8) (t := (10, 0, 0)) hM9.1 rfl rfl (m_spentAnew l (E := E) (base := base) hM9 hI (x := nI pp)) hH kX7_spentAnew qw_873 qw_874 qw_872 rfl [] rfl hl.1 (Nat.le_of_ble_eq_true rfl) ⟨(Nat.le_of_ble_eq_true rfl), (Nat.le_of_ble_eq_true rfl)⟩ dL_law_936 ⟨by show cells + 1 + 0 ≤ 601024; omega, by show slots + 6 + 0 ≤ 7293034; omega⟩ (fun r H locs hp hS => ?_)
    obtain ⟨⟨v9, rfl⟩, hp⟩ := hp
    rcases hp with ⟨g1, hP8⟩ | ⟨p8, hp8, e8, hr8, hP8⟩
    · skip
      exfalso; first | exact c1 g1 | exact g1 c1 | exact c2 g2 | exact g2 c2 | exact c3 g3 | exact g3 c3 | (have q9 := (nI_eq (by have := hI.1; have := hI.2.1; have := hI.2.2.1; omega) (by have := hI.1; have := hI.2.1; have := hI.2.2.1; omega)).mp e8; subst q9; first | exact c4 g4 | exact g4 c4)
    · skip
      have g1 : inR _ np := ⟨p8, hp8, e8⟩
      have q9 := (nI_eq (by have := hI.1; have := hI.2.1; have := hI.2.2.1; omega) (by have := hI.1; have := hI.2.1; have := hI.2.2.1; omega)).mp e8
      subst q9
      have hv9 := Value.int.inj (Option.some.inj hr8)
      have ho9 : fo9 0 = v9.toInt64 := by rw [hv9]; exact ho8
      obtain ⟨w8, fr8, hH, hM8, hf8⟩ := hP8
      have hR8 := hR9.of (fun t ht => hf8 t (by unfold dm at ht; omega)) (fun _ _ => rfl)
      replace hO8 := (hf8 (20, 0, 0) (by decide)).trans hO8
      refine lv_istore (lv' := [(6, .int v9), (5, .int (nI 0)), (4, .int (nI i)), (3, .ref (al (20, 0, 0))), (2, .ref (al (10, 0, 0))), (1, .ref (al (0, 0, 0))), (0, .ref b)]) hx hb dL_law_939 hl (by decide) rfl (fun ls hl => ?_)
      refine lv_aload_n hx hb dL_law_941 rfl (lv_at hl 4 rfl) ?_
      refine lv_adr a10 ?_
      refine x_callV C hH hS (ci := 8) (t := (10, 0, 0)) hM8.1 rfl rfl (m_thrown l (E := E) (base := base) hM8 ) hH kX7_thrown qw_756 qw_757 qw_755 rfl [] rfl hl.1 (Nat.le_of_ble_eq_true rfl) ⟨(Nat.le_of_ble_eq_true rfl), (Nat.le_of_ble_eq_true rfl)⟩ dL_law_942 ⟨by show cells + 1 + 0 ≤ 601024; omega, by show slots + 6 + 0 ≤ 7293034; omega⟩ (fun r H locs hp hS => ?_)
      obtain ⟨rfl, hH⟩ := hp
      refine lv_iload hx hb dL_law_945 (lv_at hl 1 rfl) ?_
      refine lv_icmp_eq (tgt := 952) hx hb dL_law_947 (by decide) (fun c_3 => ?_) (fun c_3 => absurd (by decide +kernel) c_3)
      clear c_3
      refine lv_iload hx hb dL_law_952 (lv_at hl 1 rfl) ?_
      refine lv_if_ne (tgt := 969) hx hb dL_law_954 (by decide) (fun c_4 => absurd (by decide +kernel) c_4) (fun c_4 => ?_)
      clear c_4
      refine lv_aload_n hx hb dL_law_957 rfl (lv_at hl 3 rfl) ?_
      refine lv_iconst (v := nI 0) hx hb dL_law_958 (by decide +kernel) ?_
      refine lv_adr2 a20 ?_
      refine x_lald C hH hO8 (j := 0) rfl (by omega) (by omega) dL_law_959 ?_
      rw [ho9]
      refine lv_iload hx hb dL_law_960 (lv_at hl 0 rfl) ?_
      refine lv_i2l hx hb dL_law_962 rfl ?_
      refine lv_lcmp hx hb dL_law_963 ?_
      refine lv_re (y := nI 0) (lcv_self _) ?_
      refine lv_if_eq (tgt := 969) hx hb dL_law_964 (by decide) (fun c_5 => ?_) (fun c_5 => absurd (by decide +kernel) c_5)
      clear c_5
      refine lv_goto (tgt := 1307) hx hb dL_law_969 (by decide) ?_
      refine W.widen (k := cells + 30) (n := slots + 700) (by show cells + 1 + 0 + 0 ≤ _; omega) (by show slots + 6 + 0 + 0 ≤ _; omega) ?_
      exact kk _ _ _ ⟨al9, w8, _, _, _, _, _, _, _, fr8, _, hH, hR8, hI, hM8, hO8, h09, a10.symm, a20.symm⟩ hS (lv_sub hl [2, 3, 4, 5, 6] rfl)

set_option maxHeartbeats 4000000 in
set_option maxRecDepth 100000 in
theorem op_answer (l : Launch) (hfl : l.stackTraces = false) {p : Program} {e : Env} {s : State} {m : MethodId} {below : List Frame} {meth : Method} {c : Code} {ret9 : Option FieldType} {E : xE} {base b L : Nat} {xs : Nat → Int32} {Q : State → Prop} (C : XC p s m #[Value.ref b] meth c "DataroomLaw" cL_law 7 ret9 E base) (hXs : va_X b L xs s s.heap) (hbl : b < s.heap.size) (hbA : ¬ xA base b) {cells slots i : Nat} (hcs : cells + 30 ≤ 601024) (hss : slots + 700 ≤ 7293034) (hi : i + 6 ≤ L) (hL : L ≤ 3072)
    {al : Tg → Nat} {w : Tg → Option va_E} {nf np na nw : Nat} {sg : Nat → Nat → Nat → Int32} {rc : Nat → Bool} {th : Int32} {fr : Nat → Int32} {fo : Nat → Int64} (hR : RM E al w nf np na nw sg rc) (hI : INV nf np na nw sg rc) (hMM : MMf E al w th nf np na nw sg rc fr) (hO : w (20, 0, 0) = some (.inl (E.2.1 1, 1, .inr (.inl fo)))) {H : Heap} {locs : List Loc} {ls : Array Slot} (hH : xH E base al w H) (hS : va_S (xA base) s.heap H locs) (hl : lv_has ls 7 [(4, .int (nI i)), (3, .ref (al (20, 0, 0))), (2, .ref (al (10, 0, 0))), (1, .ref (al (0, 0, 0))), (0, .ref b)])
    (kk : ∀ (H : Heap) (locs : List Loc) (ls : Array Slot), SI E base (al (0, 0, 0)) (al (10, 0, 0)) (al (20, 0, 0)) H → va_S (xA base) s.heap H locs → lv_has ls 7 [(4, .int (nI i)), (3, .ref (al (20, 0, 0))), (2, .ref (al (10, 0, 0))), (1, .ref (al (0, 0, 0))), (0, .ref b)] → W p l e room_1 s m #[Value.ref b] below meth c H locs (cells + 30) (slots + 700) Q (F0 m 1307 ls [])) : W p l e room_1 s m #[Value.ref b] below meth c H locs cells slots Q (F0 m 792 ls []) := by
  have hx := C.hx
  have hb := C.hb
  refine lv_aload_n hx hb dL_law_792 rfl (lv_at hl 3 rfl) ?_
  refine lv_aload_n hx hb dL_law_793 rfl (lv_at hl 4 rfl) ?_
  refine lv_iload hx hb dL_law_794 (lv_at hl 0 rfl) ?_
  refine lv_iconst (v := nI 1) hx hb dL_law_796 (by decide +kernel) ?_
  refine lv_iadd hx hb dL_law_797 ?_
  refine lv_re (nI_add _ _) ?_
  refine va_sld C.hx C.hb hXs hbl hbA hS (vp_in_nI (by omega : i + 1 < L) (by omega)) dL_law_798 ?_
  rw [nI_clamp (by omega)]
  obtain ⟨x1, hx1⟩ : ∃ z9, z9 = xs (i + 1) := ⟨_, rfl⟩
  rw [← hx1]
  refine lv_aload_n hx hb dL_law_799 rfl (lv_at hl 4 rfl) ?_
  refine lv_iload hx hb dL_law_800 (lv_at hl 0 rfl) ?_
  refine lv_iconst (v := nI 2) hx hb dL_law_802 (by decide +kernel) ?_
  refine lv_iadd hx hb dL_law_803 ?_
  refine lv_re (nI_add _ _) ?_
  refine va_sld C.hx C.hb hXs hbl hbA hS (vp_in_nI (by omega : i + 2 < L) (by omega)) dL_law_804 ?_
  rw [nI_clamp (by omega)]
  obtain ⟨x2, hx2⟩ : ∃ z9, z9 = xs (i + 2) := ⟨_, rfl⟩
  rw [← hx2]
  refine lv_aload_n hx hb dL_law_805 rfl (lv_at hl 1 rfl) ?_
  refine x_callH (k := 4) C hS (l_answer l hfl (E := E) (base := base) hR hI hO (x := x1) (z := x2)) hH qw_574 qw_0 ⟨by decide +kernel, by decide +kernel, by decide +kernel⟩ qw_573 qw_572 rfl [] rfl hl.1 (Nat.le_of_ble_eq_true rfl) ⟨(Nat.le_of_ble_eq_true rfl), (Nat.le_of_ble_eq_true rfl)⟩ dL_law_806 ⟨by show cells + 1 ≤ 601024; omega, by show slots + 6 ≤ 7293034; omega⟩ (fun r H locs hp hS => ?_)
  rcases hp with ⟨rfl, c1, hH⟩ | ⟨rfl, c1, c2, hH⟩ | ⟨rfl, a, k, ha, hk, rfl, rfl, hP⟩
  · skip
    obtain ⟨al9, hal9⟩ : ∃ z : Tg → Nat, z = al := ⟨_, rfl⟩
    have hfa : ∀ t : Tg, 10 ≤ t.1 → al9 t = al t := fun t _ => by rw [hal9]
    have h09 : al9 (0, 0, 0) = al (0, 0, 0) := by rw [hal9]
    have hR9 := hR
    have hM9 := hMM
    have hO8 := hO
    rw [← hal9] at hH hR9 hM9
    have a10 := (hfa (10, 0, 0) (by decide)).symm
    have a20 := (hfa (20, 0, 0) (by decide)).symm
    refine lv_istore (lv' := [(5, .int (nI 1)), (4, .int (nI i)), (3, .ref (al (20, 0, 0))), (2, .ref (al (10, 0, 0))), (1, .ref (al (0, 0, 0))), (0, .ref b)]) hx hb dL_law_809 hl (by decide) rfl (fun ls hl => ?_)
    refine lv_aload_n hx hb dL_law_811 rfl (lv_at hl 3 rfl) ?_
    refine lv_aload_n hx hb dL_law_812 rfl (lv_at hl 5 rfl) ?_
    refine lv_iload hx hb dL_law_813 (lv_at hl 1 rfl) ?_
    refine lv_iconst (v := nI 1) hx hb dL_law_815 (by decide +kernel) ?_
    refine lv_iadd hx hb dL_law_816 ?_
    refine lv_re (nI_add _ _) ?_
    refine va_sld C.hx C.hb hXs hbl hbA hS (vp_in_nI (by omega : i + 1 < L) (by omega)) dL_law_817 ?_
    rw [nI_clamp (by omega)]
    rw [← hx1]
    refine lv_aload_n hx hb dL_law_818 rfl (lv_at hl 5 rfl) ?_
    refine lv_iload hx hb dL_law_819 (lv_at hl 1 rfl) ?_
    refine lv_iconst (v := nI 2) hx hb dL_law_821 (by decide +kernel) ?_
    refine lv_iadd hx hb dL_law_822 ?_
    refine lv_re (nI_add _ _) ?_
    refine va_sld C.hx C.hb hXs hbl hbA hS (vp_in_nI (by omega : i + 2 < L) (by omega)) dL_law_823 ?_
    rw [nI_clamp (by omega)]
    rw [← hx2]
    refine lv_adr3 a10 ?_
    refine x_callV C hH hS (ci := 8) (t := (10, 0, 0)) hM9.1 rfl rfl (m_answer l (E := E) (base := base) hM9 hI (x := x1) (z := x2)) hH kX7_answer qw_865 qw_866 qw_864 rfl [] rfl hl.1 (Nat.le_of_ble_eq_true rfl) ⟨(Nat.le_of_ble_eq_true rfl), (Nat.le_of_ble_eq_true rfl)⟩ dL_law_824 ⟨by show cells + 1 + 0 ≤ 601024; omega, by show slots + 6 + 0 ≤ 7293034; omega⟩ (fun r H locs hp hS => ?_)
    obtain ⟨⟨v9, rfl⟩, hp⟩ := hp
    rcases hp with ⟨g1, hP8⟩ | ⟨g1, g2, hP8⟩ | ⟨p8, k8, hp8, hk8, e8, eb8, hr8, hP8⟩
    · skip
      obtain ⟨w8, fr8, hH, hM8, hf8⟩ := hP8
      have hR8 := hR9.of (fun t ht => hf8 t (by unfold dm at ht; omega)) (fun _ _ => rfl)
      replace hO8 := (hf8 (20, 0, 0) (by decide)).trans hO8
      refine lv_istore (lv' := [(6, .int v9), (5, .int (nI 1)), (4, .int (nI i)), (3, .ref (al (20, 0, 0))), (2, .ref (al (10, 0, 0))), (1, .ref (al (0, 0, 0))), (0, .ref b)]) hx hb dL_law_827 hl (by decide) rfl (fun ls hl => ?_)
      refine lv_aload_n hx hb dL_law_829 rfl (lv_at hl 4 rfl) ?_
      refine lv_adr a10 ?_
      refine x_callV C hH hS (ci := 8) (t := (10, 0, 0)) hM8.1 rfl rfl (m_thrown l (E := E) (base := base) hM8 ) hH kX7_thrown qw_756 qw_757 qw_755 rfl [] rfl hl.1 (Nat.le_of_ble_eq_true rfl) ⟨(Nat.le_of_ble_eq_true rfl), (Nat.le_of_ble_eq_true rfl)⟩ dL_law_830 ⟨by show cells + 1 + 0 ≤ 601024; omega, by show slots + 6 + 0 ≤ 7293034; omega⟩ (fun r H locs hp hS => ?_)
      obtain ⟨rfl, hH⟩ := hp
      refine lv_iload hx hb dL_law_833 (lv_at hl 1 rfl) ?_
      refine lv_icmp_eq (tgt := 840) hx hb dL_law_835 (by decide) (fun c_1 => ?_) (fun c_1 => absurd (by decide +kernel) c_1)
      clear c_1
      refine lv_iload hx hb dL_law_840 (lv_at hl 1 rfl) ?_
      refine lv_if_ne (tgt := 857) hx hb dL_law_842 (by decide) (fun c_2 => ?_) (fun c_2 => absurd c_2 (by decide +kernel))
      clear c_2
      refine lv_goto (tgt := 1307) hx hb dL_law_857 (by decide) ?_
      refine W.widen (k := cells + 30) (n := slots + 700) (by show cells + 1 + 0 + 0 ≤ _; omega) (by show slots + 6 + 0 + 0 ≤ _; omega) ?_
      exact kk _ _ _ ⟨al9, w8, _, _, _, _, _, _, _, fr8, _, hH, hR8, hI, hM8, hO8, h09, a10.symm, a20.symm⟩ hS (lv_sub hl [2, 3, 4, 5, 6] rfl)
    · skip
      exfalso; first | exact c1 g1 | exact g1 c1 | exact c2 g2 | exact g2 c2 | exact c3 g3 | exact g3 c3 | (have q9 := (nI_eq (by have := hI.1; have := hI.2.1; have := hI.2.2.1; omega) (by have := hI.1; have := hI.2.1; have := hI.2.2.1; omega)).mp e8; subst q9; first | exact c4 g4 | exact g4 c4)
    · skip
      have g1 : inR _ na := ⟨p8, hp8, e8⟩
      have g2 : nI 0 ≤ nI k8 ∧ nI k8 ≤ nI 5 := ⟨nI_le (Nat.zero_le _) (by omega), nI_le hk8 (by omega)⟩
      rw [← eb8] at g2
      exfalso; first | exact c1 g1 | exact g1 c1 | exact c2 g2 | exact g2 c2 | exact c3 g3 | exact g3 c3 | (have q9 := (nI_eq (by have := hI.1; have := hI.2.1; have := hI.2.2.1; omega) (by have := hI.1; have := hI.2.1; have := hI.2.2.1; omega)).mp e8; subst q9; first | exact c4 g4 | exact g4 c4)
  · skip
    obtain ⟨al9, hal9⟩ : ∃ z : Tg → Nat, z = al := ⟨_, rfl⟩
    have hfa : ∀ t : Tg, 10 ≤ t.1 → al9 t = al t := fun t _ => by rw [hal9]
    have h09 : al9 (0, 0, 0) = al (0, 0, 0) := by rw [hal9]
    have hR9 := hR
    have hM9 := hMM
    have hO8 := hO
    rw [← hal9] at hH hR9 hM9
    have a10 := (hfa (10, 0, 0) (by decide)).symm
    have a20 := (hfa (20, 0, 0) (by decide)).symm
    refine lv_istore (lv' := [(5, .int (nI 2)), (4, .int (nI i)), (3, .ref (al (20, 0, 0))), (2, .ref (al (10, 0, 0))), (1, .ref (al (0, 0, 0))), (0, .ref b)]) hx hb dL_law_809 hl (by decide) rfl (fun ls hl => ?_)
    refine lv_aload_n hx hb dL_law_811 rfl (lv_at hl 3 rfl) ?_
    refine lv_aload_n hx hb dL_law_812 rfl (lv_at hl 5 rfl) ?_
    refine lv_iload hx hb dL_law_813 (lv_at hl 1 rfl) ?_
    refine lv_iconst (v := nI 1) hx hb dL_law_815 (by decide +kernel) ?_
    refine lv_iadd hx hb dL_law_816 ?_
    refine lv_re (nI_add _ _) ?_
    refine va_sld C.hx C.hb hXs hbl hbA hS (vp_in_nI (by omega : i + 1 < L) (by omega)) dL_law_817 ?_
    rw [nI_clamp (by omega)]
    rw [← hx1]
    refine lv_aload_n hx hb dL_law_818 rfl (lv_at hl 5 rfl) ?_
    refine lv_iload hx hb dL_law_819 (lv_at hl 1 rfl) ?_
    refine lv_iconst (v := nI 2) hx hb dL_law_821 (by decide +kernel) ?_
    refine lv_iadd hx hb dL_law_822 ?_
    refine lv_re (nI_add _ _) ?_
    refine va_sld C.hx C.hb hXs hbl hbA hS (vp_in_nI (by omega : i + 2 < L) (by omega)) dL_law_823 ?_
    rw [nI_clamp (by omega)]
    rw [← hx2]
    refine lv_adr3 a10 ?_
    refine x_callV C hH hS (ci := 8) (t := (10, 0, 0)) hM9.1 rfl rfl (m_answer l (E := E) (base := base) hM9 hI (x := x1) (z := x2)) hH kX7_answer qw_865 qw_866 qw_864 rfl [] rfl hl.1 (Nat.le_of_ble_eq_true rfl) ⟨(Nat.le_of_ble_eq_true rfl), (Nat.le_of_ble_eq_true rfl)⟩ dL_law_824 ⟨by show cells + 1 + 0 ≤ 601024; omega, by show slots + 6 + 0 ≤ 7293034; omega⟩ (fun r H locs hp hS => ?_)
    obtain ⟨⟨v9, rfl⟩, hp⟩ := hp
    rcases hp with ⟨g1, hP8⟩ | ⟨g1, g2, hP8⟩ | ⟨p8, k8, hp8, hk8, e8, eb8, hr8, hP8⟩
    · skip
      exfalso; first | exact c1 g1 | exact g1 c1 | exact c2 g2 | exact g2 c2 | exact c3 g3 | exact g3 c3 | (have q9 := (nI_eq (by have := hI.1; have := hI.2.1; have := hI.2.2.1; omega) (by have := hI.1; have := hI.2.1; have := hI.2.2.1; omega)).mp e8; subst q9; first | exact c4 g4 | exact g4 c4)
    · skip
      obtain ⟨w8, fr8, hH, hM8, hf8⟩ := hP8
      have hR8 := hR9.of (fun t ht => hf8 t (by unfold dm at ht; omega)) (fun _ _ => rfl)
      replace hO8 := (hf8 (20, 0, 0) (by decide)).trans hO8
      refine lv_istore (lv' := [(6, .int v9), (5, .int (nI 2)), (4, .int (nI i)), (3, .ref (al (20, 0, 0))), (2, .ref (al (10, 0, 0))), (1, .ref (al (0, 0, 0))), (0, .ref b)]) hx hb dL_law_827 hl (by decide) rfl (fun ls hl => ?_)
      refine lv_aload_n hx hb dL_law_829 rfl (lv_at hl 4 rfl) ?_
      refine lv_adr a10 ?_
      refine x_callV C hH hS (ci := 8) (t := (10, 0, 0)) hM8.1 rfl rfl (m_thrown l (E := E) (base := base) hM8 ) hH kX7_thrown qw_756 qw_757 qw_755 rfl [] rfl hl.1 (Nat.le_of_ble_eq_true rfl) ⟨(Nat.le_of_ble_eq_true rfl), (Nat.le_of_ble_eq_true rfl)⟩ dL_law_830 ⟨by show cells + 1 + 0 ≤ 601024; omega, by show slots + 6 + 0 ≤ 7293034; omega⟩ (fun r H locs hp hS => ?_)
      obtain ⟨rfl, hH⟩ := hp
      refine lv_iload hx hb dL_law_833 (lv_at hl 1 rfl) ?_
      refine lv_icmp_eq (tgt := 840) hx hb dL_law_835 (by decide) (fun c_3 => ?_) (fun c_3 => absurd (by decide +kernel) c_3)
      clear c_3
      refine lv_iload hx hb dL_law_840 (lv_at hl 1 rfl) ?_
      refine lv_if_ne (tgt := 857) hx hb dL_law_842 (by decide) (fun c_4 => ?_) (fun c_4 => absurd c_4 (by decide +kernel))
      clear c_4
      refine lv_goto (tgt := 1307) hx hb dL_law_857 (by decide) ?_
      refine W.widen (k := cells + 30) (n := slots + 700) (by show cells + 1 + 0 + 0 ≤ _; omega) (by show slots + 6 + 0 + 0 ≤ _; omega) ?_
      exact kk _ _ _ ⟨al9, w8, _, _, _, _, _, _, _, fr8, _, hH, hR8, hI, hM8, hO8, h09, a10.symm, a20.symm⟩ hS (lv_sub hl [2, 3, 4, 5, 6] rfl)
    · skip
      have g1 : inR _ na := ⟨p8, hp8, e8⟩
      have g2 : nI 0 ≤ nI k8 ∧ nI k8 ≤ nI 5 := ⟨nI_le (Nat.zero_le _) (by omega), nI_le hk8 (by omega)⟩
      rw [← eb8] at g2
      exfalso; first | exact c1 g1 | exact g1 c1 | exact c2 g2 | exact g2 c2 | exact c3 g3 | exact g3 c3 | (have q9 := (nI_eq (by have := hI.1; have := hI.2.1; have := hI.2.2.1; omega) (by have := hI.1; have := hI.2.1; have := hI.2.2.1; omega)).mp e8; subst q9; first | exact c4 g4 | exact g4 c4)
  · skip
    have c1 : inR (nI a) na := ⟨a, ha, rfl⟩
    have c2 : nI 0 ≤ nI k ∧ nI k ≤ nI 5 := ⟨nI_le (Nat.zero_le _) (by omega), nI_le hk (by omega)⟩
    obtain ⟨al9, w9, fo9, hH, hR9, hO8, ho8, hfa, hfw, h09⟩ := hP
    have hM9 := hMM.mv (fun t ht => hfw t (by omega) (fun e => by rw [e] at ht; revert ht; simp)) (fun t ht => hfa t (by omega))
    have a10 := (hfa (10, 0, 0) (by decide)).symm
    have a20 := (hfa (20, 0, 0) (by decide)).symm
    refine lv_istore (lv' := [(5, .int (nI 0)), (4, .int (nI i)), (3, .ref (al (20, 0, 0))), (2, .ref (al (10, 0, 0))), (1, .ref (al (0, 0, 0))), (0, .ref b)]) hx hb dL_law_809 hl (by decide) rfl (fun ls hl => ?_)
    refine lv_aload_n hx hb dL_law_811 rfl (lv_at hl 3 rfl) ?_
    refine lv_aload_n hx hb dL_law_812 rfl (lv_at hl 5 rfl) ?_
    refine lv_iload hx hb dL_law_813 (lv_at hl 1 rfl) ?_
    refine lv_iconst (v := nI 1) hx hb dL_law_815 (by decide +kernel) ?_
    refine lv_iadd hx hb dL_law_816 ?_
    refine lv_re (nI_add _ _) ?_
    refine va_sld C.hx C.hb hXs hbl hbA hS (vp_in_nI (by omega : i + 1 < L) (by omega)) dL_law_817 ?_
    rw [nI_clamp (by omega)]
    rw [← hx1]
    refine lv_aload_n hx hb dL_law_818 rfl (lv_at hl 5 rfl) ?_
    refine lv_iload hx hb dL_law_819 (lv_at hl 1 rfl) ?_
    refine lv_iconst (v := nI 2) hx hb dL_law_821 (by decide +kernel) ?_
    refine lv_iadd hx hb dL_law_822 ?_
    refine lv_re (nI_add _ _) ?_
    refine va_sld C.hx C.hb hXs hbl hbA hS (vp_in_nI (by omega : i + 2 < L) (by omega)) dL_law_823 ?_
    rw [nI_clamp (by omega)]
    rw [← hx2]
    refine lv_adr3 a10 ?_
    refine x_callV C hH hS (ci := 8) (t := (10, 0, 0)) hM9.1 rfl rfl (m_answer l (E := E) (base := base) hM9 hI (x := nI a) (z := nI k)) hH kX7_answer qw_865 qw_866 qw_864 rfl [] rfl hl.1 (Nat.le_of_ble_eq_true rfl) ⟨(Nat.le_of_ble_eq_true rfl), (Nat.le_of_ble_eq_true rfl)⟩ dL_law_824 ⟨by show cells + 1 + 0 ≤ 601024; omega, by show slots + 6 + 0 ≤ 7293034; omega⟩ (fun r H locs hp hS => ?_)
    obtain ⟨⟨v9, rfl⟩, hp⟩ := hp
    rcases hp with ⟨g1, hP8⟩ | ⟨g1, g2, hP8⟩ | ⟨p8, k8, hp8, hk8, e8, eb8, hr8, hP8⟩
    · skip
      exfalso; first | exact c1 g1 | exact g1 c1 | exact c2 g2 | exact g2 c2 | exact c3 g3 | exact g3 c3 | (have q9 := (nI_eq (by have := hI.1; have := hI.2.1; have := hI.2.2.1; omega) (by have := hI.1; have := hI.2.1; have := hI.2.2.1; omega)).mp e8; subst q9; first | exact c4 g4 | exact g4 c4)
    · skip
      exfalso; first | exact c1 g1 | exact g1 c1 | exact c2 g2 | exact g2 c2 | exact c3 g3 | exact g3 c3 | (have q9 := (nI_eq (by have := hI.1; have := hI.2.1; have := hI.2.2.1; omega) (by have := hI.1; have := hI.2.1; have := hI.2.2.1; omega)).mp e8; subst q9; first | exact c4 g4 | exact g4 c4)
    · skip
      have g1 : inR _ na := ⟨p8, hp8, e8⟩
      have g2 : nI 0 ≤ nI k8 ∧ nI k8 ≤ nI 5 := ⟨nI_le (Nat.zero_le _) (by omega), nI_le hk8 (by omega)⟩
      rw [← eb8] at g2
      have q9 := (nI_eq (by have := hI.1; have := hI.2.1; have := hI.2.2.1; omega) (by have := hI.1; have := hI.2.1; have := hI.2.2.1; omega)).mp e8
      subst q9
      have q8 := (nI_eq (by have := hI.1; have := hI.2.1; have := hI.2.2.1; omega) (by have := hI.1; have := hI.2.1; have := hI.2.2.1; omega)).mp eb8
      subst q8
      have hv9 := Value.int.inj (Option.some.inj hr8)
      have ho9 : fo9 0 = v9.toInt64 := by rw [hv9]; exact ho8
      obtain ⟨w8, fr8, hH, hM8, hf8⟩ := hP8
      have hR8 := hR9.of (fun t ht => hf8 t (by unfold dm at ht; omega)) (fun _ _ => rfl)
      replace hO8 := (hf8 (20, 0, 0) (by decide)).trans hO8
      refine lv_istore (lv' := [(6, .int v9), (5, .int (nI 0)), (4, .int (nI i)), (3, .ref (al (20, 0, 0))), (2, .ref (al (10, 0, 0))), (1, .ref (al (0, 0, 0))), (0, .ref b)]) hx hb dL_law_827 hl (by decide) rfl (fun ls hl => ?_)
      refine lv_aload_n hx hb dL_law_829 rfl (lv_at hl 4 rfl) ?_
      refine lv_adr a10 ?_
      refine x_callV C hH hS (ci := 8) (t := (10, 0, 0)) hM8.1 rfl rfl (m_thrown l (E := E) (base := base) hM8 ) hH kX7_thrown qw_756 qw_757 qw_755 rfl [] rfl hl.1 (Nat.le_of_ble_eq_true rfl) ⟨(Nat.le_of_ble_eq_true rfl), (Nat.le_of_ble_eq_true rfl)⟩ dL_law_830 ⟨by show cells + 1 + 0 ≤ 601024; omega, by show slots + 6 + 0 ≤ 7293034; omega⟩ (fun r H locs hp hS => ?_)
      obtain ⟨rfl, hH⟩ := hp
      refine lv_iload hx hb dL_law_833 (lv_at hl 1 rfl) ?_
      refine lv_icmp_eq (tgt := 840) hx hb dL_law_835 (by decide) (fun c_5 => ?_) (fun c_5 => absurd (by decide +kernel) c_5)
      clear c_5
      refine lv_iload hx hb dL_law_840 (lv_at hl 1 rfl) ?_
      refine lv_if_ne (tgt := 857) hx hb dL_law_842 (by decide) (fun c_6 => absurd (by decide +kernel) c_6) (fun c_6 => ?_)
      clear c_6
      refine lv_aload_n hx hb dL_law_845 rfl (lv_at hl 3 rfl) ?_
      refine lv_iconst (v := nI 0) hx hb dL_law_846 (by decide +kernel) ?_
      refine lv_adr2 a20 ?_
      refine x_lald C hH hO8 (j := 0) rfl (by omega) (by omega) dL_law_847 ?_
      rw [ho9]
      refine lv_iload hx hb dL_law_848 (lv_at hl 0 rfl) ?_
      refine lv_i2l hx hb dL_law_850 rfl ?_
      refine lv_lcmp hx hb dL_law_851 ?_
      refine lv_re (y := nI 0) (lcv_self _) ?_
      refine lv_if_eq (tgt := 857) hx hb dL_law_852 (by decide) (fun c_7 => ?_) (fun c_7 => absurd (by decide +kernel) c_7)
      clear c_7
      refine lv_goto (tgt := 1307) hx hb dL_law_857 (by decide) ?_
      refine W.widen (k := cells + 30) (n := slots + 700) (by show cells + 1 + 0 + 0 ≤ _; omega) (by show slots + 6 + 0 + 0 ≤ _; omega) ?_
      exact kk _ _ _ ⟨al9, w8, _, _, _, _, _, _, _, fr8, _, hH, hR8, hI, hM8, hO8, h09, a10.symm, a20.symm⟩ hS (lv_sub hl [2, 3, 4, 5, 6] rfl)

set_option maxHeartbeats 4000000 in
set_option maxRecDepth 100000 in
theorem op_count (l : Launch) (hfl : l.stackTraces = false) {p : Program} {e : Env} {s : State} {m : MethodId} {below : List Frame} {meth : Method} {c : Code} {ret9 : Option FieldType} {E : xE} {base b L : Nat} {xs : Nat → Int32} {Q : State → Prop} (C : XC p s m #[Value.ref b] meth c "DataroomLaw" cL_law 7 ret9 E base) (hXs : va_X b L xs s s.heap) (hbl : b < s.heap.size) (hbA : ¬ xA base b) {cells slots i : Nat} (hcs : cells + 30 ≤ 601024) (hss : slots + 700 ≤ 7293034) (hi : i + 6 ≤ L) (hL : L ≤ 3072)
    {al : Tg → Nat} {w : Tg → Option va_E} {nf np na nw : Nat} {sg : Nat → Nat → Nat → Int32} {rc : Nat → Bool} {th : Int32} {fr : Nat → Int32} {fo : Nat → Int64} (hR : RM E al w nf np na nw sg rc) (hI : INV nf np na nw sg rc) (hMM : MMf E al w th nf np na nw sg rc fr) (hO : w (20, 0, 0) = some (.inl (E.2.1 1, 1, .inr (.inl fo)))) {H : Heap} {locs : List Loc} {ls : Array Slot} (hH : xH E base al w H) (hS : va_S (xA base) s.heap H locs) (hl : lv_has ls 7 [(4, .int (nI i)), (3, .ref (al (20, 0, 0))), (2, .ref (al (10, 0, 0))), (1, .ref (al (0, 0, 0))), (0, .ref b)])
    (kk : ∀ (H : Heap) (locs : List Loc) (ls : Array Slot), SI E base (al (0, 0, 0)) (al (10, 0, 0)) (al (20, 0, 0)) H → va_S (xA base) s.heap H locs → lv_has ls 7 [(4, .int (nI i)), (3, .ref (al (20, 0, 0))), (2, .ref (al (10, 0, 0))), (1, .ref (al (0, 0, 0))), (0, .ref b)] → W p l e room_1 s m #[Value.ref b] below meth c H locs (cells + 30) (slots + 700) Q (F0 m 1307 ls [])) : W p l e room_1 s m #[Value.ref b] below meth c H locs cells slots Q (F0 m 1239 ls []) := by
  have hx := C.hx
  have hb := C.hb
  refine lv_aload_n hx hb dL_law_1239 rfl (lv_at hl 3 rfl) ?_
  refine lv_aload_n hx hb dL_law_1240 rfl (lv_at hl 4 rfl) ?_
  refine lv_iload hx hb dL_law_1241 (lv_at hl 0 rfl) ?_
  refine lv_iconst (v := nI 1) hx hb dL_law_1243 (by decide +kernel) ?_
  refine lv_iadd hx hb dL_law_1244 ?_
  refine lv_re (nI_add _ _) ?_
  refine va_sld C.hx C.hb hXs hbl hbA hS (vp_in_nI (by omega : i + 1 < L) (by omega)) dL_law_1245 ?_
  rw [nI_clamp (by omega)]
  obtain ⟨x1, hx1⟩ : ∃ z9, z9 = xs (i + 1) := ⟨_, rfl⟩
  rw [← hx1]
  refine lv_aload_n hx hb dL_law_1246 rfl (lv_at hl 4 rfl) ?_
  refine lv_iload hx hb dL_law_1247 (lv_at hl 0 rfl) ?_
  refine lv_iconst (v := nI 2) hx hb dL_law_1249 (by decide +kernel) ?_
  refine lv_iadd hx hb dL_law_1250 ?_
  refine lv_re (nI_add _ _) ?_
  refine va_sld C.hx C.hb hXs hbl hbA hS (vp_in_nI (by omega : i + 2 < L) (by omega)) dL_law_1251 ?_
  rw [nI_clamp (by omega)]
  obtain ⟨x2, hx2⟩ : ∃ z9, z9 = xs (i + 2) := ⟨_, rfl⟩
  rw [← hx2]
  refine lv_aload_n hx hb dL_law_1252 rfl (lv_at hl 1 rfl) ?_
  refine x_callH (k := 4) C hS (l_count l hfl (E := E) (base := base) hR hI hO (x := x1) (z := x2)) hH qw_677 qw_0 ⟨by decide +kernel, by decide +kernel, by decide +kernel⟩ qw_676 qw_675 rfl [] rfl hl.1 (Nat.le_of_ble_eq_true rfl) ⟨(Nat.le_of_ble_eq_true rfl), (Nat.le_of_ble_eq_true rfl)⟩ dL_law_1253 ⟨by show cells + 2 ≤ 601024; omega, by show slots + 12 ≤ 7293034; omega⟩ (fun r H locs hp hS => ?_)
  rcases hp with ⟨rfl, c1, hH⟩ | ⟨rfl, c1, c2, hH⟩ | ⟨rfl, pp, k, hpp, hk, rfl, rfl, hP⟩
  · skip
    obtain ⟨al9, hal9⟩ : ∃ z : Tg → Nat, z = al := ⟨_, rfl⟩
    have hfa : ∀ t : Tg, 10 ≤ t.1 → al9 t = al t := fun t _ => by rw [hal9]
    have h09 : al9 (0, 0, 0) = al (0, 0, 0) := by rw [hal9]
    have hR9 := hR
    have hM9 := hMM
    have hO8 := hO
    rw [← hal9] at hH hR9 hM9
    have a10 := (hfa (10, 0, 0) (by decide)).symm
    have a20 := (hfa (20, 0, 0) (by decide)).symm
    refine lv_istore (lv' := [(5, .int (nI 1)), (4, .int (nI i)), (3, .ref (al (20, 0, 0))), (2, .ref (al (10, 0, 0))), (1, .ref (al (0, 0, 0))), (0, .ref b)]) hx hb dL_law_1256 hl (by decide) rfl (fun ls hl => ?_)
    refine lv_aload_n hx hb dL_law_1258 rfl (lv_at hl 3 rfl) ?_
    refine lv_aload_n hx hb dL_law_1259 rfl (lv_at hl 5 rfl) ?_
    refine lv_iload hx hb dL_law_1260 (lv_at hl 1 rfl) ?_
    refine lv_iconst (v := nI 1) hx hb dL_law_1262 (by decide +kernel) ?_
    refine lv_iadd hx hb dL_law_1263 ?_
    refine lv_re (nI_add _ _) ?_
    refine va_sld C.hx C.hb hXs hbl hbA hS (vp_in_nI (by omega : i + 1 < L) (by omega)) dL_law_1264 ?_
    rw [nI_clamp (by omega)]
    rw [← hx1]
    refine lv_aload_n hx hb dL_law_1265 rfl (lv_at hl 5 rfl) ?_
    refine lv_iload hx hb dL_law_1266 (lv_at hl 1 rfl) ?_
    refine lv_iconst (v := nI 2) hx hb dL_law_1268 (by decide +kernel) ?_
    refine lv_iadd hx hb dL_law_1269 ?_
    refine lv_re (nI_add _ _) ?_
    refine va_sld C.hx C.hb hXs hbl hbA hS (vp_in_nI (by omega : i + 2 < L) (by omega)) dL_law_1270 ?_
    rw [nI_clamp (by omega)]
    rw [← hx2]
    refine lv_adr3 a10 ?_
    refine x_callV C hH hS (ci := 8) (t := (10, 0, 0)) hM9.1 rfl rfl (m_count l (E := E) (base := base) hM9 hI (x := x1) (z := x2)) hH kX7_count qw_897 qw_898 qw_896 rfl [] rfl hl.1 (Nat.le_of_ble_eq_true rfl) ⟨(Nat.le_of_ble_eq_true rfl), (Nat.le_of_ble_eq_true rfl)⟩ dL_law_1271 ⟨by show cells + 2 + 0 ≤ 601024; omega, by show slots + 12 + 0 ≤ 7293034; omega⟩ (fun r H locs hp hS => ?_)
    obtain ⟨⟨v9, rfl⟩, hp⟩ := hp
    rcases hp with ⟨g1, hP8⟩ | ⟨g1, g2, hP8⟩ | ⟨p8, k8, hp8, hk8, e8, eb8, hr8, hP8⟩
    · skip
      obtain ⟨w8, fr8, hH, hM8, hf8⟩ := hP8
      have hR8 := hR9.of (fun t ht => hf8 t (by unfold dm at ht; omega)) (fun _ _ => rfl)
      replace hO8 := (hf8 (20, 0, 0) (by decide)).trans hO8
      refine lv_istore (lv' := [(6, .int v9), (5, .int (nI 1)), (4, .int (nI i)), (3, .ref (al (20, 0, 0))), (2, .ref (al (10, 0, 0))), (1, .ref (al (0, 0, 0))), (0, .ref b)]) hx hb dL_law_1274 hl (by decide) rfl (fun ls hl => ?_)
      refine lv_aload_n hx hb dL_law_1276 rfl (lv_at hl 4 rfl) ?_
      refine lv_adr a10 ?_
      refine x_callV C hH hS (ci := 8) (t := (10, 0, 0)) hM8.1 rfl rfl (m_thrown l (E := E) (base := base) hM8 ) hH kX7_thrown qw_756 qw_757 qw_755 rfl [] rfl hl.1 (Nat.le_of_ble_eq_true rfl) ⟨(Nat.le_of_ble_eq_true rfl), (Nat.le_of_ble_eq_true rfl)⟩ dL_law_1277 ⟨by show cells + 2 + 0 ≤ 601024; omega, by show slots + 12 + 0 ≤ 7293034; omega⟩ (fun r H locs hp hS => ?_)
      obtain ⟨rfl, hH⟩ := hp
      refine lv_iload hx hb dL_law_1280 (lv_at hl 1 rfl) ?_
      refine lv_icmp_eq (tgt := 1287) hx hb dL_law_1282 (by decide) (fun c_1 => ?_) (fun c_1 => absurd (by decide +kernel) c_1)
      clear c_1
      refine lv_iload hx hb dL_law_1287 (lv_at hl 1 rfl) ?_
      refine lv_if_ne (tgt := 1304) hx hb dL_law_1289 (by decide) (fun c_2 => ?_) (fun c_2 => absurd c_2 (by decide +kernel))
      clear c_2
      refine lv_goto (tgt := 1307) hx hb dL_law_1304 (by decide) ?_
      refine W.widen (k := cells + 30) (n := slots + 700) (by show cells + 2 + 0 + 0 ≤ _; omega) (by show slots + 12 + 0 + 0 ≤ _; omega) ?_
      exact kk _ _ _ ⟨al9, w8, _, _, _, _, _, _, _, fr8, _, hH, hR8, hI, hM8, hO8, h09, a10.symm, a20.symm⟩ hS (lv_sub hl [2, 3, 4, 5, 6] rfl)
    · skip
      exfalso; first | exact c1 g1 | exact g1 c1 | exact c2 g2 | exact g2 c2 | exact c3 g3 | exact g3 c3 | (have q9 := (nI_eq (by have := hI.1; have := hI.2.1; have := hI.2.2.1; omega) (by have := hI.1; have := hI.2.1; have := hI.2.2.1; omega)).mp e8; subst q9; first | exact c4 g4 | exact g4 c4)
    · skip
      have g1 : inR _ np := ⟨p8, hp8, e8⟩
      have g2 : nI 0 ≤ nI k8 ∧ nI k8 ≤ nI 5 := ⟨nI_le (Nat.zero_le _) (by omega), nI_le hk8 (by omega)⟩
      rw [← eb8] at g2
      exfalso; first | exact c1 g1 | exact g1 c1 | exact c2 g2 | exact g2 c2 | exact c3 g3 | exact g3 c3 | (have q9 := (nI_eq (by have := hI.1; have := hI.2.1; have := hI.2.2.1; omega) (by have := hI.1; have := hI.2.1; have := hI.2.2.1; omega)).mp e8; subst q9; first | exact c4 g4 | exact g4 c4)
  · skip
    obtain ⟨al9, hal9⟩ : ∃ z : Tg → Nat, z = al := ⟨_, rfl⟩
    have hfa : ∀ t : Tg, 10 ≤ t.1 → al9 t = al t := fun t _ => by rw [hal9]
    have h09 : al9 (0, 0, 0) = al (0, 0, 0) := by rw [hal9]
    have hR9 := hR
    have hM9 := hMM
    have hO8 := hO
    rw [← hal9] at hH hR9 hM9
    have a10 := (hfa (10, 0, 0) (by decide)).symm
    have a20 := (hfa (20, 0, 0) (by decide)).symm
    refine lv_istore (lv' := [(5, .int (nI 2)), (4, .int (nI i)), (3, .ref (al (20, 0, 0))), (2, .ref (al (10, 0, 0))), (1, .ref (al (0, 0, 0))), (0, .ref b)]) hx hb dL_law_1256 hl (by decide) rfl (fun ls hl => ?_)
    refine lv_aload_n hx hb dL_law_1258 rfl (lv_at hl 3 rfl) ?_
    refine lv_aload_n hx hb dL_law_1259 rfl (lv_at hl 5 rfl) ?_
    refine lv_iload hx hb dL_law_1260 (lv_at hl 1 rfl) ?_
    refine lv_iconst (v := nI 1) hx hb dL_law_1262 (by decide +kernel) ?_
    refine lv_iadd hx hb dL_law_1263 ?_
    refine lv_re (nI_add _ _) ?_
    refine va_sld C.hx C.hb hXs hbl hbA hS (vp_in_nI (by omega : i + 1 < L) (by omega)) dL_law_1264 ?_
    rw [nI_clamp (by omega)]
    rw [← hx1]
    refine lv_aload_n hx hb dL_law_1265 rfl (lv_at hl 5 rfl) ?_
    refine lv_iload hx hb dL_law_1266 (lv_at hl 1 rfl) ?_
    refine lv_iconst (v := nI 2) hx hb dL_law_1268 (by decide +kernel) ?_
    refine lv_iadd hx hb dL_law_1269 ?_
    refine lv_re (nI_add _ _) ?_
    refine va_sld C.hx C.hb hXs hbl hbA hS (vp_in_nI (by omega : i + 2 < L) (by omega)) dL_law_1270 ?_
    rw [nI_clamp (by omega)]
    rw [← hx2]
    refine lv_adr3 a10 ?_
    refine x_callV C hH hS (ci := 8) (t := (10, 0, 0)) hM9.1 rfl rfl (m_count l (E := E) (base := base) hM9 hI (x := x1) (z := x2)) hH kX7_count qw_897 qw_898 qw_896 rfl [] rfl hl.1 (Nat.le_of_ble_eq_true rfl) ⟨(Nat.le_of_ble_eq_true rfl), (Nat.le_of_ble_eq_true rfl)⟩ dL_law_1271 ⟨by show cells + 2 + 0 ≤ 601024; omega, by show slots + 12 + 0 ≤ 7293034; omega⟩ (fun r H locs hp hS => ?_)
    obtain ⟨⟨v9, rfl⟩, hp⟩ := hp
    rcases hp with ⟨g1, hP8⟩ | ⟨g1, g2, hP8⟩ | ⟨p8, k8, hp8, hk8, e8, eb8, hr8, hP8⟩
    · skip
      exfalso; first | exact c1 g1 | exact g1 c1 | exact c2 g2 | exact g2 c2 | exact c3 g3 | exact g3 c3 | (have q9 := (nI_eq (by have := hI.1; have := hI.2.1; have := hI.2.2.1; omega) (by have := hI.1; have := hI.2.1; have := hI.2.2.1; omega)).mp e8; subst q9; first | exact c4 g4 | exact g4 c4)
    · skip
      obtain ⟨w8, fr8, hH, hM8, hf8⟩ := hP8
      have hR8 := hR9.of (fun t ht => hf8 t (by unfold dm at ht; omega)) (fun _ _ => rfl)
      replace hO8 := (hf8 (20, 0, 0) (by decide)).trans hO8
      refine lv_istore (lv' := [(6, .int v9), (5, .int (nI 2)), (4, .int (nI i)), (3, .ref (al (20, 0, 0))), (2, .ref (al (10, 0, 0))), (1, .ref (al (0, 0, 0))), (0, .ref b)]) hx hb dL_law_1274 hl (by decide) rfl (fun ls hl => ?_)
      refine lv_aload_n hx hb dL_law_1276 rfl (lv_at hl 4 rfl) ?_
      refine lv_adr a10 ?_
      refine x_callV C hH hS (ci := 8) (t := (10, 0, 0)) hM8.1 rfl rfl (m_thrown l (E := E) (base := base) hM8 ) hH kX7_thrown qw_756 qw_757 qw_755 rfl [] rfl hl.1 (Nat.le_of_ble_eq_true rfl) ⟨(Nat.le_of_ble_eq_true rfl), (Nat.le_of_ble_eq_true rfl)⟩ dL_law_1277 ⟨by show cells + 2 + 0 ≤ 601024; omega, by show slots + 12 + 0 ≤ 7293034; omega⟩ (fun r H locs hp hS => ?_)
      obtain ⟨rfl, hH⟩ := hp
      refine lv_iload hx hb dL_law_1280 (lv_at hl 1 rfl) ?_
      refine lv_icmp_eq (tgt := 1287) hx hb dL_law_1282 (by decide) (fun c_3 => ?_) (fun c_3 => absurd (by decide +kernel) c_3)
      clear c_3
      refine lv_iload hx hb dL_law_1287 (lv_at hl 1 rfl) ?_
      refine lv_if_ne (tgt := 1304) hx hb dL_law_1289 (by decide) (fun c_4 => ?_) (fun c_4 => absurd c_4 (by decide +kernel))
      clear c_4
      refine lv_goto (tgt := 1307) hx hb dL_law_1304 (by decide) ?_
      refine W.widen (k := cells + 30) (n := slots + 700) (by show cells + 2 + 0 + 0 ≤ _; omega) (by show slots + 12 + 0 + 0 ≤ _; omega) ?_
      exact kk _ _ _ ⟨al9, w8, _, _, _, _, _, _, _, fr8, _, hH, hR8, hI, hM8, hO8, h09, a10.symm, a20.symm⟩ hS (lv_sub hl [2, 3, 4, 5, 6] rfl)
    · skip
      have g1 : inR _ np := ⟨p8, hp8, e8⟩
      have g2 : nI 0 ≤ nI k8 ∧ nI k8 ≤ nI 5 := ⟨nI_le (Nat.zero_le _) (by omega), nI_le hk8 (by omega)⟩
      rw [← eb8] at g2
      exfalso; first | exact c1 g1 | exact g1 c1 | exact c2 g2 | exact g2 c2 | exact c3 g3 | exact g3 c3 | (have q9 := (nI_eq (by have := hI.1; have := hI.2.1; have := hI.2.2.1; omega) (by have := hI.1; have := hI.2.1; have := hI.2.2.1; omega)).mp e8; subst q9; first | exact c4 g4 | exact g4 c4)
  · skip
    have c1 : inR (nI pp) np := ⟨pp, hpp, rfl⟩
    have c2 : nI 0 ≤ nI k ∧ nI k ≤ nI 5 := ⟨nI_le (Nat.zero_le _) (by omega), nI_le hk (by omega)⟩
    obtain ⟨al9, w9, fo9, hH, hR9, hO8, ho8, hfa, hfw, h09⟩ := hP
    have hM9 := hMM.mv (fun t ht => hfw t (by omega) (fun e => by rw [e] at ht; revert ht; simp)) (fun t ht => hfa t (by omega))
    have a10 := (hfa (10, 0, 0) (by decide)).symm
    have a20 := (hfa (20, 0, 0) (by decide)).symm
    refine lv_istore (lv' := [(5, .int (nI 0)), (4, .int (nI i)), (3, .ref (al (20, 0, 0))), (2, .ref (al (10, 0, 0))), (1, .ref (al (0, 0, 0))), (0, .ref b)]) hx hb dL_law_1256 hl (by decide) rfl (fun ls hl => ?_)
    refine lv_aload_n hx hb dL_law_1258 rfl (lv_at hl 3 rfl) ?_
    refine lv_aload_n hx hb dL_law_1259 rfl (lv_at hl 5 rfl) ?_
    refine lv_iload hx hb dL_law_1260 (lv_at hl 1 rfl) ?_
    refine lv_iconst (v := nI 1) hx hb dL_law_1262 (by decide +kernel) ?_
    refine lv_iadd hx hb dL_law_1263 ?_
    refine lv_re (nI_add _ _) ?_
    refine va_sld C.hx C.hb hXs hbl hbA hS (vp_in_nI (by omega : i + 1 < L) (by omega)) dL_law_1264 ?_
    rw [nI_clamp (by omega)]
    rw [← hx1]
    refine lv_aload_n hx hb dL_law_1265 rfl (lv_at hl 5 rfl) ?_
    refine lv_iload hx hb dL_law_1266 (lv_at hl 1 rfl) ?_
    refine lv_iconst (v := nI 2) hx hb dL_law_1268 (by decide +kernel) ?_
    refine lv_iadd hx hb dL_law_1269 ?_
    refine lv_re (nI_add _ _) ?_
    refine va_sld C.hx C.hb hXs hbl hbA hS (vp_in_nI (by omega : i + 2 < L) (by omega)) dL_law_1270 ?_
    rw [nI_clamp (by omega)]
    rw [← hx2]
    refine lv_adr3 a10 ?_
    refine x_callV C hH hS (ci := 8) (t := (10, 0, 0)) hM9.1 rfl rfl (m_count l (E := E) (base := base) hM9 hI (x := nI pp) (z := nI k)) hH kX7_count qw_897 qw_898 qw_896 rfl [] rfl hl.1 (Nat.le_of_ble_eq_true rfl) ⟨(Nat.le_of_ble_eq_true rfl), (Nat.le_of_ble_eq_true rfl)⟩ dL_law_1271 ⟨by show cells + 2 + 0 ≤ 601024; omega, by show slots + 12 + 0 ≤ 7293034; omega⟩ (fun r H locs hp hS => ?_)
    obtain ⟨⟨v9, rfl⟩, hp⟩ := hp
    rcases hp with ⟨g1, hP8⟩ | ⟨g1, g2, hP8⟩ | ⟨p8, k8, hp8, hk8, e8, eb8, hr8, hP8⟩
    · skip
      exfalso; first | exact c1 g1 | exact g1 c1 | exact c2 g2 | exact g2 c2 | exact c3 g3 | exact g3 c3 | (have q9 := (nI_eq (by have := hI.1; have := hI.2.1; have := hI.2.2.1; omega) (by have := hI.1; have := hI.2.1; have := hI.2.2.1; omega)).mp e8; subst q9; first | exact c4 g4 | exact g4 c4)
    · skip
      exfalso; first | exact c1 g1 | exact g1 c1 | exact c2 g2 | exact g2 c2 | exact c3 g3 | exact g3 c3 | (have q9 := (nI_eq (by have := hI.1; have := hI.2.1; have := hI.2.2.1; omega) (by have := hI.1; have := hI.2.1; have := hI.2.2.1; omega)).mp e8; subst q9; first | exact c4 g4 | exact g4 c4)
    · skip
      have g1 : inR _ np := ⟨p8, hp8, e8⟩
      have g2 : nI 0 ≤ nI k8 ∧ nI k8 ≤ nI 5 := ⟨nI_le (Nat.zero_le _) (by omega), nI_le hk8 (by omega)⟩
      rw [← eb8] at g2
      have q9 := (nI_eq (by have := hI.1; have := hI.2.1; have := hI.2.2.1; omega) (by have := hI.1; have := hI.2.1; have := hI.2.2.1; omega)).mp e8
      subst q9
      have q8 := (nI_eq (by have := hI.1; have := hI.2.1; have := hI.2.2.1; omega) (by have := hI.1; have := hI.2.1; have := hI.2.2.1; omega)).mp eb8
      subst q8
      have hv9 := Value.int.inj (Option.some.inj hr8)
      have ho9 : fo9 0 = v9.toInt64 := by rw [hv9]; exact ho8
      obtain ⟨w8, fr8, hH, hM8, hf8⟩ := hP8
      have hR8 := hR9.of (fun t ht => hf8 t (by unfold dm at ht; omega)) (fun _ _ => rfl)
      replace hO8 := (hf8 (20, 0, 0) (by decide)).trans hO8
      refine lv_istore (lv' := [(6, .int v9), (5, .int (nI 0)), (4, .int (nI i)), (3, .ref (al (20, 0, 0))), (2, .ref (al (10, 0, 0))), (1, .ref (al (0, 0, 0))), (0, .ref b)]) hx hb dL_law_1274 hl (by decide) rfl (fun ls hl => ?_)
      refine lv_aload_n hx hb dL_law_1276 rfl (lv_at hl 4 rfl) ?_
      refine lv_adr a10 ?_
      refine x_callV C hH hS (ci := 8) (t := (10, 0, 0)) hM8.1 rfl rfl (m_thrown l (E := E) (base := base) hM8 ) hH kX7_thrown qw_756 qw_757 qw_755 rfl [] rfl hl.1 (Nat.le_of_ble_eq_true rfl) ⟨(Nat.le_of_ble_eq_true rfl), (Nat.le_of_ble_eq_true rfl)⟩ dL_law_1277 ⟨by show cells + 2 + 0 ≤ 601024; omega, by show slots + 12 + 0 ≤ 7293034; omega⟩ (fun r H locs hp hS => ?_)
      obtain ⟨rfl, hH⟩ := hp
      refine lv_iload hx hb dL_law_1280 (lv_at hl 1 rfl) ?_
      refine lv_icmp_eq (tgt := 1287) hx hb dL_law_1282 (by decide) (fun c_5 => ?_) (fun c_5 => absurd (by decide +kernel) c_5)
      clear c_5
      refine lv_iload hx hb dL_law_1287 (lv_at hl 1 rfl) ?_
      refine lv_if_ne (tgt := 1304) hx hb dL_law_1289 (by decide) (fun c_6 => absurd (by decide +kernel) c_6) (fun c_6 => ?_)
      clear c_6
      refine lv_aload_n hx hb dL_law_1292 rfl (lv_at hl 3 rfl) ?_
      refine lv_iconst (v := nI 0) hx hb dL_law_1293 (by decide +kernel) ?_
      refine lv_adr2 a20 ?_
      refine x_lald C hH hO8 (j := 0) rfl (by omega) (by omega) dL_law_1294 ?_
      rw [ho9]
      refine lv_iload hx hb dL_law_1295 (lv_at hl 0 rfl) ?_
      refine lv_i2l hx hb dL_law_1297 rfl ?_
      refine lv_lcmp hx hb dL_law_1298 ?_
      refine lv_re (y := nI 0) (lcv_self _) ?_
      refine lv_if_eq (tgt := 1304) hx hb dL_law_1299 (by decide) (fun c_7 => ?_) (fun c_7 => absurd (by decide +kernel) c_7)
      clear c_7
      refine lv_goto (tgt := 1307) hx hb dL_law_1304 (by decide) ?_
      refine W.widen (k := cells + 30) (n := slots + 700) (by show cells + 2 + 0 + 0 ≤ _; omega) (by show slots + 12 + 0 + 0 ≤ _; omega) ?_
      exact kk _ _ _ ⟨al9, w8, _, _, _, _, _, _, _, fr8, _, hH, hR8, hI, hM8, hO8, h09, a10.symm, a20.symm⟩ hS (lv_sub hl [2, 3, 4, 5, 6] rfl)

set_option maxHeartbeats 4000000 in
set_option maxRecDepth 100000 in
theorem op_ask (l : Launch) (hfl : l.stackTraces = false) {p : Program} {e : Env} {s : State} {m : MethodId} {below : List Frame} {meth : Method} {c : Code} {ret9 : Option FieldType} {E : xE} {base b L : Nat} {xs : Nat → Int32} {Q : State → Prop} (C : XC p s m #[Value.ref b] meth c "DataroomLaw" cL_law 7 ret9 E base) (hXs : va_X b L xs s s.heap) (hbl : b < s.heap.size) (hbA : ¬ xA base b) {cells slots i : Nat} (hcs : cells + 30 ≤ 601024) (hss : slots + 700 ≤ 7293034) (hi : i + 6 ≤ L) (hL : L ≤ 3072)
    {al : Tg → Nat} {w : Tg → Option va_E} {nf np na nw : Nat} {sg : Nat → Nat → Nat → Int32} {rc : Nat → Bool} {th : Int32} {fr : Nat → Int32} {fo : Nat → Int64} (hR : RM E al w nf np na nw sg rc) (hI : INV nf np na nw sg rc) (hMM : MMf E al w th nf np na nw sg rc fr) (hO : w (20, 0, 0) = some (.inl (E.2.1 1, 1, .inr (.inl fo)))) {H : Heap} {locs : List Loc} {ls : Array Slot} (hH : xH E base al w H) (hS : va_S (xA base) s.heap H locs) (hl : lv_has ls 7 [(4, .int (nI i)), (3, .ref (al (20, 0, 0))), (2, .ref (al (10, 0, 0))), (1, .ref (al (0, 0, 0))), (0, .ref b)])
    (kk : ∀ (H : Heap) (locs : List Loc) (ls : Array Slot), SI E base (al (0, 0, 0)) (al (10, 0, 0)) (al (20, 0, 0)) H → va_S (xA base) s.heap H locs → lv_has ls 7 [(4, .int (nI i)), (3, .ref (al (20, 0, 0))), (2, .ref (al (10, 0, 0))), (1, .ref (al (0, 0, 0))), (0, .ref b)] → W p l e room_1 s m #[Value.ref b] below meth c H locs (cells + 30) (slots + 700) Q (F0 m 1307 ls [])) : W p l e room_1 s m #[Value.ref b] below meth c H locs cells slots Q (F0 m 632 ls []) := by
  have hx := C.hx
  have hb := C.hb
  refine lv_aload_n hx hb dL_law_632 rfl (lv_at hl 3 rfl) ?_
  refine lv_aload_n hx hb dL_law_633 rfl (lv_at hl 4 rfl) ?_
  refine lv_iload hx hb dL_law_634 (lv_at hl 0 rfl) ?_
  refine lv_iconst (v := nI 1) hx hb dL_law_636 (by decide +kernel) ?_
  refine lv_iadd hx hb dL_law_637 ?_
  refine lv_re (nI_add _ _) ?_
  refine va_sld C.hx C.hb hXs hbl hbA hS (vp_in_nI (by omega : i + 1 < L) (by omega)) dL_law_638 ?_
  rw [nI_clamp (by omega)]
  obtain ⟨x1, hx1⟩ : ∃ z9, z9 = xs (i + 1) := ⟨_, rfl⟩
  rw [← hx1]
  refine lv_aload_n hx hb dL_law_639 rfl (lv_at hl 4 rfl) ?_
  refine lv_iload hx hb dL_law_640 (lv_at hl 0 rfl) ?_
  refine lv_iconst (v := nI 2) hx hb dL_law_642 (by decide +kernel) ?_
  refine lv_iadd hx hb dL_law_643 ?_
  refine lv_re (nI_add _ _) ?_
  refine va_sld C.hx C.hb hXs hbl hbA hS (vp_in_nI (by omega : i + 2 < L) (by omega)) dL_law_644 ?_
  rw [nI_clamp (by omega)]
  obtain ⟨x2, hx2⟩ : ∃ z9, z9 = xs (i + 2) := ⟨_, rfl⟩
  rw [← hx2]
  refine lv_aload_n hx hb dL_law_645 rfl (lv_at hl 4 rfl) ?_
  refine lv_iload hx hb dL_law_646 (lv_at hl 0 rfl) ?_
  refine lv_iconst (v := nI 3) hx hb dL_law_648 (by decide +kernel) ?_
  refine lv_iadd hx hb dL_law_649 ?_
  refine lv_re (nI_add _ _) ?_
  refine va_sld C.hx C.hb hXs hbl hbA hS (vp_in_nI (by omega : i + 3 < L) (by omega)) dL_law_650 ?_
  rw [nI_clamp (by omega)]
  obtain ⟨x3, hx3⟩ : ∃ z9, z9 = xs (i + 3) := ⟨_, rfl⟩
  rw [← hx3]
  refine lv_aload_n hx hb dL_law_651 rfl (lv_at hl 1 rfl) ?_
  refine x_callH (k := 5) C hS (l_ask l hfl (E := E) (base := base) hR hI hO (x := x1) (z := x2) (bit := x3)) hH qw_469 qw_0 ⟨by decide +kernel, by decide +kernel, by decide +kernel⟩ qw_468 qw_467 rfl [] rfl hl.1 (Nat.le_of_ble_eq_true rfl) ⟨(Nat.le_of_ble_eq_true rfl), (Nat.le_of_ble_eq_true rfl)⟩ dL_law_652 ⟨by show cells + 5 ≤ 601024; omega, by show slots + 384 ≤ 7293034; omega⟩ (fun r H locs hp hS => ?_)
  rcases hp with ⟨rfl, c1, hH⟩ | ⟨rfl, c1, c2, hH⟩ | ⟨rfl, c1, c2, c3, hH⟩ | ⟨rfl, pp, hpp, rfl, c2, c3, ⟨c4, hP⟩ | ⟨c4, hP⟩⟩
  · skip
    obtain ⟨al9, hal9⟩ : ∃ z : Tg → Nat, z = al := ⟨_, rfl⟩
    have hfa : ∀ t : Tg, 10 ≤ t.1 → al9 t = al t := fun t _ => by rw [hal9]
    have h09 : al9 (0, 0, 0) = al (0, 0, 0) := by rw [hal9]
    have hR9 := hR
    have hM9 := hMM
    have hO8 := hO
    rw [← hal9] at hH hR9 hM9
    have a10 := (hfa (10, 0, 0) (by decide)).symm
    have a20 := (hfa (20, 0, 0) (by decide)).symm
    refine lv_istore (lv' := [(5, .int (nI 1)), (4, .int (nI i)), (3, .ref (al (20, 0, 0))), (2, .ref (al (10, 0, 0))), (1, .ref (al (0, 0, 0))), (0, .ref b)]) hx hb dL_law_655 hl (by decide) rfl (fun ls hl => ?_)
    refine lv_aload_n hx hb dL_law_657 rfl (lv_at hl 3 rfl) ?_
    refine lv_aload_n hx hb dL_law_658 rfl (lv_at hl 5 rfl) ?_
    refine lv_iload hx hb dL_law_659 (lv_at hl 1 rfl) ?_
    refine lv_iconst (v := nI 1) hx hb dL_law_661 (by decide +kernel) ?_
    refine lv_iadd hx hb dL_law_662 ?_
    refine lv_re (nI_add _ _) ?_
    refine va_sld C.hx C.hb hXs hbl hbA hS (vp_in_nI (by omega : i + 1 < L) (by omega)) dL_law_663 ?_
    rw [nI_clamp (by omega)]
    rw [← hx1]
    refine lv_aload_n hx hb dL_law_664 rfl (lv_at hl 5 rfl) ?_
    refine lv_iload hx hb dL_law_665 (lv_at hl 1 rfl) ?_
    refine lv_iconst (v := nI 2) hx hb dL_law_667 (by decide +kernel) ?_
    refine lv_iadd hx hb dL_law_668 ?_
    refine lv_re (nI_add _ _) ?_
    refine va_sld C.hx C.hb hXs hbl hbA hS (vp_in_nI (by omega : i + 2 < L) (by omega)) dL_law_669 ?_
    rw [nI_clamp (by omega)]
    rw [← hx2]
    refine lv_aload_n hx hb dL_law_670 rfl (lv_at hl 5 rfl) ?_
    refine lv_iload hx hb dL_law_671 (lv_at hl 1 rfl) ?_
    refine lv_iconst (v := nI 3) hx hb dL_law_673 (by decide +kernel) ?_
    refine lv_iadd hx hb dL_law_674 ?_
    refine lv_re (nI_add _ _) ?_
    refine va_sld C.hx C.hb hXs hbl hbA hS (vp_in_nI (by omega : i + 3 < L) (by omega)) dL_law_675 ?_
    rw [nI_clamp (by omega)]
    rw [← hx3]
    refine lv_adr4 a10 ?_
    refine x_callV C hH hS (ci := 8) (t := (10, 0, 0)) hM9.1 rfl rfl (m_ask l (E := E) (base := base) hM9 hI (x := x1) (z := x2) (bit := x3)) hH kX7_ask qw_811 qw_812 qw_810 rfl [] rfl hl.1 (Nat.le_of_ble_eq_true rfl) ⟨(Nat.le_of_ble_eq_true rfl), (Nat.le_of_ble_eq_true rfl)⟩ dL_law_676 ⟨by show cells + 5 + 0 ≤ 601024; omega, by show slots + 384 + 0 ≤ 7293034; omega⟩ (fun r H locs hp hS => ?_)
    obtain ⟨⟨v9, rfl⟩, hp⟩ := hp
    rcases hp with ⟨g1, hP8⟩ | ⟨g1, g2, hP8⟩ | ⟨g1, g2, g3, hP8⟩ | ⟨p8, hp8, e8, g2, g3, ⟨g4, hr8, hP8⟩ | ⟨g4, hr8, hP8⟩⟩
    · skip
      obtain ⟨w8, fr8, hH, hM8, hf8⟩ := hP8
      have hR8 := hR9.of (fun t ht => hf8 t (by unfold dm at ht; omega)) (fun _ _ => rfl)
      replace hO8 := (hf8 (20, 0, 0) (by decide)).trans hO8
      refine lv_istore (lv' := [(6, .int v9), (5, .int (nI 1)), (4, .int (nI i)), (3, .ref (al (20, 0, 0))), (2, .ref (al (10, 0, 0))), (1, .ref (al (0, 0, 0))), (0, .ref b)]) hx hb dL_law_679 hl (by decide) rfl (fun ls hl => ?_)
      refine lv_aload_n hx hb dL_law_681 rfl (lv_at hl 4 rfl) ?_
      refine lv_adr a10 ?_
      refine x_callV C hH hS (ci := 8) (t := (10, 0, 0)) hM8.1 rfl rfl (m_thrown l (E := E) (base := base) hM8 ) hH kX7_thrown qw_756 qw_757 qw_755 rfl [] rfl hl.1 (Nat.le_of_ble_eq_true rfl) ⟨(Nat.le_of_ble_eq_true rfl), (Nat.le_of_ble_eq_true rfl)⟩ dL_law_682 ⟨by show cells + 5 + 0 ≤ 601024; omega, by show slots + 384 + 0 ≤ 7293034; omega⟩ (fun r H locs hp hS => ?_)
      obtain ⟨rfl, hH⟩ := hp
      refine lv_iload hx hb dL_law_685 (lv_at hl 1 rfl) ?_
      refine lv_icmp_eq (tgt := 692) hx hb dL_law_687 (by decide) (fun c_1 => ?_) (fun c_1 => absurd (by decide +kernel) c_1)
      clear c_1
      refine lv_iload hx hb dL_law_692 (lv_at hl 1 rfl) ?_
      refine lv_if_ne (tgt := 709) hx hb dL_law_694 (by decide) (fun c_2 => ?_) (fun c_2 => absurd c_2 (by decide +kernel))
      clear c_2
      refine lv_goto (tgt := 1307) hx hb dL_law_709 (by decide) ?_
      refine W.widen (k := cells + 30) (n := slots + 700) (by show cells + 5 + 0 + 0 ≤ _; omega) (by show slots + 384 + 0 + 0 ≤ _; omega) ?_
      exact kk _ _ _ ⟨al9, w8, _, _, _, _, _, _, _, fr8, _, hH, hR8, hI, hM8, hO8, h09, a10.symm, a20.symm⟩ hS (lv_sub hl [2, 3, 4, 5, 6] rfl)
    · skip
      exfalso; first | exact c1 g1 | exact g1 c1 | exact c2 g2 | exact g2 c2 | exact c3 g3 | exact g3 c3 | (have q9 := (nI_eq (by have := hI.1; have := hI.2.1; have := hI.2.2.1; omega) (by have := hI.1; have := hI.2.1; have := hI.2.2.1; omega)).mp e8; subst q9; first | exact c4 g4 | exact g4 c4)
    · skip
      exfalso; first | exact c1 g1 | exact g1 c1 | exact c2 g2 | exact g2 c2 | exact c3 g3 | exact g3 c3 | (have q9 := (nI_eq (by have := hI.1; have := hI.2.1; have := hI.2.2.1; omega) (by have := hI.1; have := hI.2.1; have := hI.2.2.1; omega)).mp e8; subst q9; first | exact c4 g4 | exact g4 c4)
    · skip
      have g1 : inR _ np := ⟨p8, hp8, e8⟩
      exfalso; first | exact c1 g1 | exact g1 c1 | exact c2 g2 | exact g2 c2 | exact c3 g3 | exact g3 c3 | (have q9 := (nI_eq (by have := hI.1; have := hI.2.1; have := hI.2.2.1; omega) (by have := hI.1; have := hI.2.1; have := hI.2.2.1; omega)).mp e8; subst q9; first | exact c4 g4 | exact g4 c4)
    · skip
      have g1 : inR _ np := ⟨p8, hp8, e8⟩
      exfalso; first | exact c1 g1 | exact g1 c1 | exact c2 g2 | exact g2 c2 | exact c3 g3 | exact g3 c3 | (have q9 := (nI_eq (by have := hI.1; have := hI.2.1; have := hI.2.2.1; omega) (by have := hI.1; have := hI.2.1; have := hI.2.2.1; omega)).mp e8; subst q9; first | exact c4 g4 | exact g4 c4)
  · skip
    obtain ⟨al9, hal9⟩ : ∃ z : Tg → Nat, z = al := ⟨_, rfl⟩
    have hfa : ∀ t : Tg, 10 ≤ t.1 → al9 t = al t := fun t _ => by rw [hal9]
    have h09 : al9 (0, 0, 0) = al (0, 0, 0) := by rw [hal9]
    have hR9 := hR
    have hM9 := hMM
    have hO8 := hO
    rw [← hal9] at hH hR9 hM9
    have a10 := (hfa (10, 0, 0) (by decide)).symm
    have a20 := (hfa (20, 0, 0) (by decide)).symm
    refine lv_istore (lv' := [(5, .int (nI 2)), (4, .int (nI i)), (3, .ref (al (20, 0, 0))), (2, .ref (al (10, 0, 0))), (1, .ref (al (0, 0, 0))), (0, .ref b)]) hx hb dL_law_655 hl (by decide) rfl (fun ls hl => ?_)
    refine lv_aload_n hx hb dL_law_657 rfl (lv_at hl 3 rfl) ?_
    refine lv_aload_n hx hb dL_law_658 rfl (lv_at hl 5 rfl) ?_
    refine lv_iload hx hb dL_law_659 (lv_at hl 1 rfl) ?_
    refine lv_iconst (v := nI 1) hx hb dL_law_661 (by decide +kernel) ?_
    refine lv_iadd hx hb dL_law_662 ?_
    refine lv_re (nI_add _ _) ?_
    refine va_sld C.hx C.hb hXs hbl hbA hS (vp_in_nI (by omega : i + 1 < L) (by omega)) dL_law_663 ?_
    rw [nI_clamp (by omega)]
    rw [← hx1]
    refine lv_aload_n hx hb dL_law_664 rfl (lv_at hl 5 rfl) ?_
    refine lv_iload hx hb dL_law_665 (lv_at hl 1 rfl) ?_
    refine lv_iconst (v := nI 2) hx hb dL_law_667 (by decide +kernel) ?_
    refine lv_iadd hx hb dL_law_668 ?_
    refine lv_re (nI_add _ _) ?_
    refine va_sld C.hx C.hb hXs hbl hbA hS (vp_in_nI (by omega : i + 2 < L) (by omega)) dL_law_669 ?_
    rw [nI_clamp (by omega)]
    rw [← hx2]
    refine lv_aload_n hx hb dL_law_670 rfl (lv_at hl 5 rfl) ?_
    refine lv_iload hx hb dL_law_671 (lv_at hl 1 rfl) ?_
    refine lv_iconst (v := nI 3) hx hb dL_law_673 (by decide +kernel) ?_
    refine lv_iadd hx hb dL_law_674 ?_
    refine lv_re (nI_add _ _) ?_
    refine va_sld C.hx C.hb hXs hbl hbA hS (vp_in_nI (by omega : i + 3 < L) (by omega)) dL_law_675 ?_
    rw [nI_clamp (by omega)]
    rw [← hx3]
    refine lv_adr4 a10 ?_
    refine x_callV C hH hS (ci := 8) (t := (10, 0, 0)) hM9.1 rfl rfl (m_ask l (E := E) (base := base) hM9 hI (x := x1) (z := x2) (bit := x3)) hH kX7_ask qw_811 qw_812 qw_810 rfl [] rfl hl.1 (Nat.le_of_ble_eq_true rfl) ⟨(Nat.le_of_ble_eq_true rfl), (Nat.le_of_ble_eq_true rfl)⟩ dL_law_676 ⟨by show cells + 5 + 0 ≤ 601024; omega, by show slots + 384 + 0 ≤ 7293034; omega⟩ (fun r H locs hp hS => ?_)
    obtain ⟨⟨v9, rfl⟩, hp⟩ := hp
    rcases hp with ⟨g1, hP8⟩ | ⟨g1, g2, hP8⟩ | ⟨g1, g2, g3, hP8⟩ | ⟨p8, hp8, e8, g2, g3, ⟨g4, hr8, hP8⟩ | ⟨g4, hr8, hP8⟩⟩
    · skip
      exfalso; first | exact c1 g1 | exact g1 c1 | exact c2 g2 | exact g2 c2 | exact c3 g3 | exact g3 c3 | (have q9 := (nI_eq (by have := hI.1; have := hI.2.1; have := hI.2.2.1; omega) (by have := hI.1; have := hI.2.1; have := hI.2.2.1; omega)).mp e8; subst q9; first | exact c4 g4 | exact g4 c4)
    · skip
      obtain ⟨w8, fr8, hH, hM8, hf8⟩ := hP8
      have hR8 := hR9.of (fun t ht => hf8 t (by unfold dm at ht; omega)) (fun _ _ => rfl)
      replace hO8 := (hf8 (20, 0, 0) (by decide)).trans hO8
      refine lv_istore (lv' := [(6, .int v9), (5, .int (nI 2)), (4, .int (nI i)), (3, .ref (al (20, 0, 0))), (2, .ref (al (10, 0, 0))), (1, .ref (al (0, 0, 0))), (0, .ref b)]) hx hb dL_law_679 hl (by decide) rfl (fun ls hl => ?_)
      refine lv_aload_n hx hb dL_law_681 rfl (lv_at hl 4 rfl) ?_
      refine lv_adr a10 ?_
      refine x_callV C hH hS (ci := 8) (t := (10, 0, 0)) hM8.1 rfl rfl (m_thrown l (E := E) (base := base) hM8 ) hH kX7_thrown qw_756 qw_757 qw_755 rfl [] rfl hl.1 (Nat.le_of_ble_eq_true rfl) ⟨(Nat.le_of_ble_eq_true rfl), (Nat.le_of_ble_eq_true rfl)⟩ dL_law_682 ⟨by show cells + 5 + 0 ≤ 601024; omega, by show slots + 384 + 0 ≤ 7293034; omega⟩ (fun r H locs hp hS => ?_)
      obtain ⟨rfl, hH⟩ := hp
      refine lv_iload hx hb dL_law_685 (lv_at hl 1 rfl) ?_
      refine lv_icmp_eq (tgt := 692) hx hb dL_law_687 (by decide) (fun c_3 => ?_) (fun c_3 => absurd (by decide +kernel) c_3)
      clear c_3
      refine lv_iload hx hb dL_law_692 (lv_at hl 1 rfl) ?_
      refine lv_if_ne (tgt := 709) hx hb dL_law_694 (by decide) (fun c_4 => ?_) (fun c_4 => absurd c_4 (by decide +kernel))
      clear c_4
      refine lv_goto (tgt := 1307) hx hb dL_law_709 (by decide) ?_
      refine W.widen (k := cells + 30) (n := slots + 700) (by show cells + 5 + 0 + 0 ≤ _; omega) (by show slots + 384 + 0 + 0 ≤ _; omega) ?_
      exact kk _ _ _ ⟨al9, w8, _, _, _, _, _, _, _, fr8, _, hH, hR8, hI, hM8, hO8, h09, a10.symm, a20.symm⟩ hS (lv_sub hl [2, 3, 4, 5, 6] rfl)
    · skip
      exfalso; first | exact c1 g1 | exact g1 c1 | exact c2 g2 | exact g2 c2 | exact c3 g3 | exact g3 c3 | (have q9 := (nI_eq (by have := hI.1; have := hI.2.1; have := hI.2.2.1; omega) (by have := hI.1; have := hI.2.1; have := hI.2.2.1; omega)).mp e8; subst q9; first | exact c4 g4 | exact g4 c4)
    · skip
      have g1 : inR _ np := ⟨p8, hp8, e8⟩
      exfalso; first | exact c1 g1 | exact g1 c1 | exact c2 g2 | exact g2 c2 | exact c3 g3 | exact g3 c3 | (have q9 := (nI_eq (by have := hI.1; have := hI.2.1; have := hI.2.2.1; omega) (by have := hI.1; have := hI.2.1; have := hI.2.2.1; omega)).mp e8; subst q9; first | exact c4 g4 | exact g4 c4)
    · skip
      have g1 : inR _ np := ⟨p8, hp8, e8⟩
      exfalso; first | exact c1 g1 | exact g1 c1 | exact c2 g2 | exact g2 c2 | exact c3 g3 | exact g3 c3 | (have q9 := (nI_eq (by have := hI.1; have := hI.2.1; have := hI.2.2.1; omega) (by have := hI.1; have := hI.2.1; have := hI.2.2.1; omega)).mp e8; subst q9; first | exact c4 g4 | exact g4 c4)
  · skip
    obtain ⟨al9, hal9⟩ : ∃ z : Tg → Nat, z = al := ⟨_, rfl⟩
    have hfa : ∀ t : Tg, 10 ≤ t.1 → al9 t = al t := fun t _ => by rw [hal9]
    have h09 : al9 (0, 0, 0) = al (0, 0, 0) := by rw [hal9]
    have hR9 := hR
    have hM9 := hMM
    have hO8 := hO
    rw [← hal9] at hH hR9 hM9
    have a10 := (hfa (10, 0, 0) (by decide)).symm
    have a20 := (hfa (20, 0, 0) (by decide)).symm
    refine lv_istore (lv' := [(5, .int (nI 3)), (4, .int (nI i)), (3, .ref (al (20, 0, 0))), (2, .ref (al (10, 0, 0))), (1, .ref (al (0, 0, 0))), (0, .ref b)]) hx hb dL_law_655 hl (by decide) rfl (fun ls hl => ?_)
    refine lv_aload_n hx hb dL_law_657 rfl (lv_at hl 3 rfl) ?_
    refine lv_aload_n hx hb dL_law_658 rfl (lv_at hl 5 rfl) ?_
    refine lv_iload hx hb dL_law_659 (lv_at hl 1 rfl) ?_
    refine lv_iconst (v := nI 1) hx hb dL_law_661 (by decide +kernel) ?_
    refine lv_iadd hx hb dL_law_662 ?_
    refine lv_re (nI_add _ _) ?_
    refine va_sld C.hx C.hb hXs hbl hbA hS (vp_in_nI (by omega : i + 1 < L) (by omega)) dL_law_663 ?_
    rw [nI_clamp (by omega)]
    rw [← hx1]
    refine lv_aload_n hx hb dL_law_664 rfl (lv_at hl 5 rfl) ?_
    refine lv_iload hx hb dL_law_665 (lv_at hl 1 rfl) ?_
    refine lv_iconst (v := nI 2) hx hb dL_law_667 (by decide +kernel) ?_
    refine lv_iadd hx hb dL_law_668 ?_
    refine lv_re (nI_add _ _) ?_
    refine va_sld C.hx C.hb hXs hbl hbA hS (vp_in_nI (by omega : i + 2 < L) (by omega)) dL_law_669 ?_
    rw [nI_clamp (by omega)]
    rw [← hx2]
    refine lv_aload_n hx hb dL_law_670 rfl (lv_at hl 5 rfl) ?_
    refine lv_iload hx hb dL_law_671 (lv_at hl 1 rfl) ?_
    refine lv_iconst (v := nI 3) hx hb dL_law_673 (by decide +kernel) ?_
    refine lv_iadd hx hb dL_law_674 ?_
    refine lv_re (nI_add _ _) ?_
    refine va_sld C.hx C.hb hXs hbl hbA hS (vp_in_nI (by omega : i + 3 < L) (by omega)) dL_law_675 ?_
    rw [nI_clamp (by omega)]
    rw [← hx3]
    refine lv_adr4 a10 ?_
    refine x_callV C hH hS (ci := 8) (t := (10, 0, 0)) hM9.1 rfl rfl (m_ask l (E := E) (base := base) hM9 hI (x := x1) (z := x2) (bit := x3)) hH kX7_ask qw_811 qw_812 qw_810 rfl [] rfl hl.1 (Nat.le_of_ble_eq_true rfl) ⟨(Nat.le_of_ble_eq_true rfl), (Nat.le_of_ble_eq_true rfl)⟩ dL_law_676 ⟨by show cells + 5 + 0 ≤ 601024; omega, by show slots + 384 + 0 ≤ 7293034; omega⟩ (fun r H locs hp hS => ?_)
    obtain ⟨⟨v9, rfl⟩, hp⟩ := hp
    rcases hp with ⟨g1, hP8⟩ | ⟨g1, g2, hP8⟩ | ⟨g1, g2, g3, hP8⟩ | ⟨p8, hp8, e8, g2, g3, ⟨g4, hr8, hP8⟩ | ⟨g4, hr8, hP8⟩⟩
    · skip
      exfalso; first | exact c1 g1 | exact g1 c1 | exact c2 g2 | exact g2 c2 | exact c3 g3 | exact g3 c3 | (have q9 := (nI_eq (by have := hI.1; have := hI.2.1; have := hI.2.2.1; omega) (by have := hI.1; have := hI.2.1; have := hI.2.2.1; omega)).mp e8; subst q9; first | exact c4 g4 | exact g4 c4)
    · skip
      exfalso; first | exact c1 g1 | exact g1 c1 | exact c2 g2 | exact g2 c2 | exact c3 g3 | exact g3 c3 | (have q9 := (nI_eq (by have := hI.1; have := hI.2.1; have := hI.2.2.1; omega) (by have := hI.1; have := hI.2.1; have := hI.2.2.1; omega)).mp e8; subst q9; first | exact c4 g4 | exact g4 c4)
    · skip
      obtain ⟨w8, fr8, hH, hM8, hf8⟩ := hP8
      have hR8 := hR9.of (fun t ht => hf8 t (by unfold dm at ht; omega)) (fun _ _ => rfl)
      replace hO8 := (hf8 (20, 0, 0) (by decide)).trans hO8
      refine lv_istore (lv' := [(6, .int v9), (5, .int (nI 3)), (4, .int (nI i)), (3, .ref (al (20, 0, 0))), (2, .ref (al (10, 0, 0))), (1, .ref (al (0, 0, 0))), (0, .ref b)]) hx hb dL_law_679 hl (by decide) rfl (fun ls hl => ?_)
      refine lv_aload_n hx hb dL_law_681 rfl (lv_at hl 4 rfl) ?_
      refine lv_adr a10 ?_
      refine x_callV C hH hS (ci := 8) (t := (10, 0, 0)) hM8.1 rfl rfl (m_thrown l (E := E) (base := base) hM8 ) hH kX7_thrown qw_756 qw_757 qw_755 rfl [] rfl hl.1 (Nat.le_of_ble_eq_true rfl) ⟨(Nat.le_of_ble_eq_true rfl), (Nat.le_of_ble_eq_true rfl)⟩ dL_law_682 ⟨by show cells + 5 + 0 ≤ 601024; omega, by show slots + 384 + 0 ≤ 7293034; omega⟩ (fun r H locs hp hS => ?_)
      obtain ⟨rfl, hH⟩ := hp
      refine lv_iload hx hb dL_law_685 (lv_at hl 1 rfl) ?_
      refine lv_icmp_eq (tgt := 692) hx hb dL_law_687 (by decide) (fun c_5 => ?_) (fun c_5 => absurd (by decide +kernel) c_5)
      clear c_5
      refine lv_iload hx hb dL_law_692 (lv_at hl 1 rfl) ?_
      refine lv_if_ne (tgt := 709) hx hb dL_law_694 (by decide) (fun c_6 => ?_) (fun c_6 => absurd c_6 (by decide +kernel))
      clear c_6
      refine lv_goto (tgt := 1307) hx hb dL_law_709 (by decide) ?_
      refine W.widen (k := cells + 30) (n := slots + 700) (by show cells + 5 + 0 + 0 ≤ _; omega) (by show slots + 384 + 0 + 0 ≤ _; omega) ?_
      exact kk _ _ _ ⟨al9, w8, _, _, _, _, _, _, _, fr8, _, hH, hR8, hI, hM8, hO8, h09, a10.symm, a20.symm⟩ hS (lv_sub hl [2, 3, 4, 5, 6] rfl)
    · skip
      have g1 : inR _ np := ⟨p8, hp8, e8⟩
      exfalso; first | exact c1 g1 | exact g1 c1 | exact c2 g2 | exact g2 c2 | exact c3 g3 | exact g3 c3 | (have q9 := (nI_eq (by have := hI.1; have := hI.2.1; have := hI.2.2.1; omega) (by have := hI.1; have := hI.2.1; have := hI.2.2.1; omega)).mp e8; subst q9; first | exact c4 g4 | exact g4 c4)
    · skip
      have g1 : inR _ np := ⟨p8, hp8, e8⟩
      exfalso; first | exact c1 g1 | exact g1 c1 | exact c2 g2 | exact g2 c2 | exact c3 g3 | exact g3 c3 | (have q9 := (nI_eq (by have := hI.1; have := hI.2.1; have := hI.2.2.1; omega) (by have := hI.1; have := hI.2.1; have := hI.2.2.1; omega)).mp e8; subst q9; first | exact c4 g4 | exact g4 c4)
  · skip
    have c1 : inR (nI pp) np := ⟨pp, hpp, rfl⟩
    obtain ⟨al9, w9, fo9, hH, hR9, hO8, ho8, hfa, hfw, h09⟩ := hP
    have hM9 := hMM.mv (fun t ht => hfw t (by omega) (fun e => by rw [e] at ht; revert ht; simp)) (fun t ht => hfa t (by omega))
    have a10 := (hfa (10, 0, 0) (by decide)).symm
    have a20 := (hfa (20, 0, 0) (by decide)).symm
    refine lv_istore (lv' := [(5, .int (nI 0)), (4, .int (nI i)), (3, .ref (al (20, 0, 0))), (2, .ref (al (10, 0, 0))), (1, .ref (al (0, 0, 0))), (0, .ref b)]) hx hb dL_law_655 hl (by decide) rfl (fun ls hl => ?_)
    refine lv_aload_n hx hb dL_law_657 rfl (lv_at hl 3 rfl) ?_
    refine lv_aload_n hx hb dL_law_658 rfl (lv_at hl 5 rfl) ?_
    refine lv_iload hx hb dL_law_659 (lv_at hl 1 rfl) ?_
    refine lv_iconst (v := nI 1) hx hb dL_law_661 (by decide +kernel) ?_
    refine lv_iadd hx hb dL_law_662 ?_
    refine lv_re (nI_add _ _) ?_
    refine va_sld C.hx C.hb hXs hbl hbA hS (vp_in_nI (by omega : i + 1 < L) (by omega)) dL_law_663 ?_
    rw [nI_clamp (by omega)]
    rw [← hx1]
    refine lv_aload_n hx hb dL_law_664 rfl (lv_at hl 5 rfl) ?_
    refine lv_iload hx hb dL_law_665 (lv_at hl 1 rfl) ?_
    refine lv_iconst (v := nI 2) hx hb dL_law_667 (by decide +kernel) ?_
    refine lv_iadd hx hb dL_law_668 ?_
    refine lv_re (nI_add _ _) ?_
    refine va_sld C.hx C.hb hXs hbl hbA hS (vp_in_nI (by omega : i + 2 < L) (by omega)) dL_law_669 ?_
    rw [nI_clamp (by omega)]
    rw [← hx2]
    refine lv_aload_n hx hb dL_law_670 rfl (lv_at hl 5 rfl) ?_
    refine lv_iload hx hb dL_law_671 (lv_at hl 1 rfl) ?_
    refine lv_iconst (v := nI 3) hx hb dL_law_673 (by decide +kernel) ?_
    refine lv_iadd hx hb dL_law_674 ?_
    refine lv_re (nI_add _ _) ?_
    refine va_sld C.hx C.hb hXs hbl hbA hS (vp_in_nI (by omega : i + 3 < L) (by omega)) dL_law_675 ?_
    rw [nI_clamp (by omega)]
    rw [← hx3]
    refine lv_adr4 a10 ?_
    refine x_callV C hH hS (ci := 8) (t := (10, 0, 0)) hM9.1 rfl rfl (m_ask l (E := E) (base := base) hM9 hI (x := nI pp) (z := x2) (bit := x3)) hH kX7_ask qw_811 qw_812 qw_810 rfl [] rfl hl.1 (Nat.le_of_ble_eq_true rfl) ⟨(Nat.le_of_ble_eq_true rfl), (Nat.le_of_ble_eq_true rfl)⟩ dL_law_676 ⟨by show cells + 5 + 0 ≤ 601024; omega, by show slots + 384 + 0 ≤ 7293034; omega⟩ (fun r H locs hp hS => ?_)
    obtain ⟨⟨v9, rfl⟩, hp⟩ := hp
    rcases hp with ⟨g1, hP8⟩ | ⟨g1, g2, hP8⟩ | ⟨g1, g2, g3, hP8⟩ | ⟨p8, hp8, e8, g2, g3, ⟨g4, hr8, hP8⟩ | ⟨g4, hr8, hP8⟩⟩
    · skip
      exfalso; first | exact c1 g1 | exact g1 c1 | exact c2 g2 | exact g2 c2 | exact c3 g3 | exact g3 c3 | (have q9 := (nI_eq (by have := hI.1; have := hI.2.1; have := hI.2.2.1; omega) (by have := hI.1; have := hI.2.1; have := hI.2.2.1; omega)).mp e8; subst q9; first | exact c4 g4 | exact g4 c4)
    · skip
      exfalso; first | exact c1 g1 | exact g1 c1 | exact c2 g2 | exact g2 c2 | exact c3 g3 | exact g3 c3 | (have q9 := (nI_eq (by have := hI.1; have := hI.2.1; have := hI.2.2.1; omega) (by have := hI.1; have := hI.2.1; have := hI.2.2.1; omega)).mp e8; subst q9; first | exact c4 g4 | exact g4 c4)
    · skip
      exfalso; first | exact c1 g1 | exact g1 c1 | exact c2 g2 | exact g2 c2 | exact c3 g3 | exact g3 c3 | (have q9 := (nI_eq (by have := hI.1; have := hI.2.1; have := hI.2.2.1; omega) (by have := hI.1; have := hI.2.1; have := hI.2.2.1; omega)).mp e8; subst q9; first | exact c4 g4 | exact g4 c4)
    · skip
      have g1 : inR _ np := ⟨p8, hp8, e8⟩
      have q9 := (nI_eq (by have := hI.1; have := hI.2.1; have := hI.2.2.1; omega) (by have := hI.1; have := hI.2.1; have := hI.2.2.1; omega)).mp e8
      subst q9
      have hv9 := Value.int.inj (Option.some.inj hr8)
      have ho9 : fo9 0 = v9.toInt64 := by rw [hv9]; exact ho8
      obtain ⟨w8, fr8, hH, hM8, hf8⟩ := hP8
      have hR8 := hR9.of (fun t ht => hf8 t (by unfold dm at ht; omega)) (fun _ _ => rfl)
      replace hO8 := (hf8 (20, 0, 0) (by decide)).trans hO8
      refine lv_istore (lv' := [(6, .int v9), (5, .int (nI 0)), (4, .int (nI i)), (3, .ref (al (20, 0, 0))), (2, .ref (al (10, 0, 0))), (1, .ref (al (0, 0, 0))), (0, .ref b)]) hx hb dL_law_679 hl (by decide) rfl (fun ls hl => ?_)
      refine lv_aload_n hx hb dL_law_681 rfl (lv_at hl 4 rfl) ?_
      refine lv_adr a10 ?_
      refine x_callV C hH hS (ci := 8) (t := (10, 0, 0)) hM8.1 rfl rfl (m_thrown l (E := E) (base := base) hM8 ) hH kX7_thrown qw_756 qw_757 qw_755 rfl [] rfl hl.1 (Nat.le_of_ble_eq_true rfl) ⟨(Nat.le_of_ble_eq_true rfl), (Nat.le_of_ble_eq_true rfl)⟩ dL_law_682 ⟨by show cells + 5 + 0 ≤ 601024; omega, by show slots + 384 + 0 ≤ 7293034; omega⟩ (fun r H locs hp hS => ?_)
      obtain ⟨rfl, hH⟩ := hp
      refine lv_iload hx hb dL_law_685 (lv_at hl 1 rfl) ?_
      refine lv_icmp_eq (tgt := 692) hx hb dL_law_687 (by decide) (fun c_7 => ?_) (fun c_7 => absurd (by decide +kernel) c_7)
      clear c_7
      refine lv_iload hx hb dL_law_692 (lv_at hl 1 rfl) ?_
      refine lv_if_ne (tgt := 709) hx hb dL_law_694 (by decide) (fun c_8 => absurd (by decide +kernel) c_8) (fun c_8 => ?_)
      clear c_8
      refine lv_aload_n hx hb dL_law_697 rfl (lv_at hl 3 rfl) ?_
      refine lv_iconst (v := nI 0) hx hb dL_law_698 (by decide +kernel) ?_
      refine lv_adr2 a20 ?_
      refine x_lald C hH hO8 (j := 0) rfl (by omega) (by omega) dL_law_699 ?_
      rw [ho9]
      refine lv_iload hx hb dL_law_700 (lv_at hl 0 rfl) ?_
      refine lv_i2l hx hb dL_law_702 rfl ?_
      refine lv_lcmp hx hb dL_law_703 ?_
      refine lv_re (y := nI 0) (lcv_self _) ?_
      refine lv_if_eq (tgt := 709) hx hb dL_law_704 (by decide) (fun c_9 => ?_) (fun c_9 => absurd (by decide +kernel) c_9)
      clear c_9
      refine lv_goto (tgt := 1307) hx hb dL_law_709 (by decide) ?_
      refine W.widen (k := cells + 30) (n := slots + 700) (by show cells + 5 + 0 + 0 ≤ _; omega) (by show slots + 384 + 0 + 0 ≤ _; omega) ?_
      exact kk _ _ _ ⟨al9, w8, _, _, _, _, _, _, _, fr8, _, hH, hR8, INV_k13 hI hpp, hM8, hO8, h09, a10.symm, a20.symm⟩ hS (lv_sub hl [2, 3, 4, 5, 6] rfl)
    · skip
      have g1 : inR _ np := ⟨p8, hp8, e8⟩
      exfalso; first | exact c1 g1 | exact g1 c1 | exact c2 g2 | exact g2 c2 | exact c3 g3 | exact g3 c3 | (have q9 := (nI_eq (by have := hI.1; have := hI.2.1; have := hI.2.2.1; omega) (by have := hI.1; have := hI.2.1; have := hI.2.2.1; omega)).mp e8; subst q9; first | exact c4 g4 | exact g4 c4)
  · skip
    have c1 : inR (nI pp) np := ⟨pp, hpp, rfl⟩
    obtain ⟨al9, w9, fo9, hH, hR9, hO8, ho8, hfa, hfw, h09⟩ := hP
    have hM9 := hMM.mv (fun t ht => hfw t (by omega) (fun e => by rw [e] at ht; revert ht; simp)) (fun t ht => hfa t (by omega))
    have a10 := (hfa (10, 0, 0) (by decide)).symm
    have a20 := (hfa (20, 0, 0) (by decide)).symm
    refine lv_istore (lv' := [(5, .int (nI 0)), (4, .int (nI i)), (3, .ref (al (20, 0, 0))), (2, .ref (al (10, 0, 0))), (1, .ref (al (0, 0, 0))), (0, .ref b)]) hx hb dL_law_655 hl (by decide) rfl (fun ls hl => ?_)
    refine lv_aload_n hx hb dL_law_657 rfl (lv_at hl 3 rfl) ?_
    refine lv_aload_n hx hb dL_law_658 rfl (lv_at hl 5 rfl) ?_
    refine lv_iload hx hb dL_law_659 (lv_at hl 1 rfl) ?_
    refine lv_iconst (v := nI 1) hx hb dL_law_661 (by decide +kernel) ?_
    refine lv_iadd hx hb dL_law_662 ?_
    refine lv_re (nI_add _ _) ?_
    refine va_sld C.hx C.hb hXs hbl hbA hS (vp_in_nI (by omega : i + 1 < L) (by omega)) dL_law_663 ?_
    rw [nI_clamp (by omega)]
    rw [← hx1]
    refine lv_aload_n hx hb dL_law_664 rfl (lv_at hl 5 rfl) ?_
    refine lv_iload hx hb dL_law_665 (lv_at hl 1 rfl) ?_
    refine lv_iconst (v := nI 2) hx hb dL_law_667 (by decide +kernel) ?_
    refine lv_iadd hx hb dL_law_668 ?_
    refine lv_re (nI_add _ _) ?_
    refine va_sld C.hx C.hb hXs hbl hbA hS (vp_in_nI (by omega : i + 2 < L) (by omega)) dL_law_669 ?_
    rw [nI_clamp (by omega)]
    rw [← hx2]
    refine lv_aload_n hx hb dL_law_670 rfl (lv_at hl 5 rfl) ?_
    refine lv_iload hx hb dL_law_671 (lv_at hl 1 rfl) ?_
    refine lv_iconst (v := nI 3) hx hb dL_law_673 (by decide +kernel) ?_
    refine lv_iadd hx hb dL_law_674 ?_
    refine lv_re (nI_add _ _) ?_
    refine va_sld C.hx C.hb hXs hbl hbA hS (vp_in_nI (by omega : i + 3 < L) (by omega)) dL_law_675 ?_
    rw [nI_clamp (by omega)]
    rw [← hx3]
    refine lv_adr4 a10 ?_
    refine x_callV C hH hS (ci := 8) (t := (10, 0, 0)) hM9.1 rfl rfl (m_ask l (E := E) (base := base) hM9 hI (x := nI pp) (z := x2) (bit := x3)) hH kX7_ask qw_811 qw_812 qw_810 rfl [] rfl hl.1 (Nat.le_of_ble_eq_true rfl) ⟨(Nat.le_of_ble_eq_true rfl), (Nat.le_of_ble_eq_true rfl)⟩ dL_law_676 ⟨by show cells + 5 + 0 ≤ 601024; omega, by show slots + 384 + 0 ≤ 7293034; omega⟩ (fun r H locs hp hS => ?_)
    obtain ⟨⟨v9, rfl⟩, hp⟩ := hp
    rcases hp with ⟨g1, hP8⟩ | ⟨g1, g2, hP8⟩ | ⟨g1, g2, g3, hP8⟩ | ⟨p8, hp8, e8, g2, g3, ⟨g4, hr8, hP8⟩ | ⟨g4, hr8, hP8⟩⟩
    · skip
      exfalso; first | exact c1 g1 | exact g1 c1 | exact c2 g2 | exact g2 c2 | exact c3 g3 | exact g3 c3 | (have q9 := (nI_eq (by have := hI.1; have := hI.2.1; have := hI.2.2.1; omega) (by have := hI.1; have := hI.2.1; have := hI.2.2.1; omega)).mp e8; subst q9; first | exact c4 g4 | exact g4 c4)
    · skip
      exfalso; first | exact c1 g1 | exact g1 c1 | exact c2 g2 | exact g2 c2 | exact c3 g3 | exact g3 c3 | (have q9 := (nI_eq (by have := hI.1; have := hI.2.1; have := hI.2.2.1; omega) (by have := hI.1; have := hI.2.1; have := hI.2.2.1; omega)).mp e8; subst q9; first | exact c4 g4 | exact g4 c4)
    · skip
      exfalso; first | exact c1 g1 | exact g1 c1 | exact c2 g2 | exact g2 c2 | exact c3 g3 | exact g3 c3 | (have q9 := (nI_eq (by have := hI.1; have := hI.2.1; have := hI.2.2.1; omega) (by have := hI.1; have := hI.2.1; have := hI.2.2.1; omega)).mp e8; subst q9; first | exact c4 g4 | exact g4 c4)
    · skip
      have g1 : inR _ np := ⟨p8, hp8, e8⟩
      exfalso; first | exact c1 g1 | exact g1 c1 | exact c2 g2 | exact g2 c2 | exact c3 g3 | exact g3 c3 | (have q9 := (nI_eq (by have := hI.1; have := hI.2.1; have := hI.2.2.1; omega) (by have := hI.1; have := hI.2.1; have := hI.2.2.1; omega)).mp e8; subst q9; first | exact c4 g4 | exact g4 c4)
    · skip
      have g1 : inR _ np := ⟨p8, hp8, e8⟩
      have q9 := (nI_eq (by have := hI.1; have := hI.2.1; have := hI.2.2.1; omega) (by have := hI.1; have := hI.2.1; have := hI.2.2.1; omega)).mp e8
      subst q9
      have hv9 := Value.int.inj (Option.some.inj hr8)
      have ho9 : fo9 0 = v9.toInt64 := by rw [hv9]; exact ho8
      obtain ⟨w8, fr8, hH, hM8, hf8⟩ := hP8
      have hR8 := hR9.of (fun t ht => hf8 t (by unfold dm at ht; omega)) (fun _ _ => rfl)
      replace hO8 := (hf8 (20, 0, 0) (by decide)).trans hO8
      refine lv_istore (lv' := [(6, .int v9), (5, .int (nI 0)), (4, .int (nI i)), (3, .ref (al (20, 0, 0))), (2, .ref (al (10, 0, 0))), (1, .ref (al (0, 0, 0))), (0, .ref b)]) hx hb dL_law_679 hl (by decide) rfl (fun ls hl => ?_)
      refine lv_aload_n hx hb dL_law_681 rfl (lv_at hl 4 rfl) ?_
      refine lv_adr a10 ?_
      refine x_callV C hH hS (ci := 8) (t := (10, 0, 0)) hM8.1 rfl rfl (m_thrown l (E := E) (base := base) hM8 ) hH kX7_thrown qw_756 qw_757 qw_755 rfl [] rfl hl.1 (Nat.le_of_ble_eq_true rfl) ⟨(Nat.le_of_ble_eq_true rfl), (Nat.le_of_ble_eq_true rfl)⟩ dL_law_682 ⟨by show cells + 5 + 0 ≤ 601024; omega, by show slots + 384 + 0 ≤ 7293034; omega⟩ (fun r H locs hp hS => ?_)
      obtain ⟨rfl, hH⟩ := hp
      refine lv_iload hx hb dL_law_685 (lv_at hl 1 rfl) ?_
      refine lv_icmp_eq (tgt := 692) hx hb dL_law_687 (by decide) (fun c_10 => ?_) (fun c_10 => absurd (by decide +kernel) c_10)
      clear c_10
      refine lv_iload hx hb dL_law_692 (lv_at hl 1 rfl) ?_
      refine lv_if_ne (tgt := 709) hx hb dL_law_694 (by decide) (fun c_11 => absurd (by decide +kernel) c_11) (fun c_11 => ?_)
      clear c_11
      refine lv_aload_n hx hb dL_law_697 rfl (lv_at hl 3 rfl) ?_
      refine lv_iconst (v := nI 0) hx hb dL_law_698 (by decide +kernel) ?_
      refine lv_adr2 a20 ?_
      refine x_lald C hH hO8 (j := 0) rfl (by omega) (by omega) dL_law_699 ?_
      rw [ho9]
      refine lv_iload hx hb dL_law_700 (lv_at hl 0 rfl) ?_
      refine lv_i2l hx hb dL_law_702 rfl ?_
      refine lv_lcmp hx hb dL_law_703 ?_
      refine lv_re (y := nI 0) (lcv_self _) ?_
      refine lv_if_eq (tgt := 709) hx hb dL_law_704 (by decide) (fun c_12 => ?_) (fun c_12 => absurd (by decide +kernel) c_12)
      clear c_12
      refine lv_goto (tgt := 1307) hx hb dL_law_709 (by decide) ?_
      refine W.widen (k := cells + 30) (n := slots + 700) (by show cells + 5 + 0 + 0 ≤ _; omega) (by show slots + 384 + 0 + 0 ≤ _; omega) ?_
      exact kk _ _ _ ⟨al9, w8, _, _, _, _, _, _, _, fr8, _, hH, hR8, INV_told (INV_k13 hI hpp) hpp c2 c3, hM8, hO8, h09, a10.symm, a20.symm⟩ hS (lv_sub hl [2, 3, 4, 5, 6] rfl)

set_option maxHeartbeats 4000000 in
set_option maxRecDepth 100000 in
theorem op_isSealed (l : Launch) (hfl : l.stackTraces = false) {p : Program} {e : Env} {s : State} {m : MethodId} {below : List Frame} {meth : Method} {c : Code} {ret9 : Option FieldType} {E : xE} {base b L : Nat} {xs : Nat → Int32} {Q : State → Prop} (C : XC p s m #[Value.ref b] meth c "DataroomLaw" cL_law 7 ret9 E base) (hXs : va_X b L xs s s.heap) (hbl : b < s.heap.size) (hbA : ¬ xA base b) {cells slots i : Nat} (hcs : cells + 30 ≤ 601024) (hss : slots + 700 ≤ 7293034) (hi : i + 6 ≤ L) (hL : L ≤ 3072)
    {al : Tg → Nat} {w : Tg → Option va_E} {nf np na nw : Nat} {sg : Nat → Nat → Nat → Int32} {rc : Nat → Bool} {th : Int32} {fr : Nat → Int32} {fo : Nat → Int64} (hR : RM E al w nf np na nw sg rc) (hI : INV nf np na nw sg rc) (hMM : MMf E al w th nf np na nw sg rc fr) (hO : w (20, 0, 0) = some (.inl (E.2.1 1, 1, .inr (.inl fo)))) {H : Heap} {locs : List Loc} {ls : Array Slot} (hH : xH E base al w H) (hS : va_S (xA base) s.heap H locs) (hl : lv_has ls 7 [(4, .int (nI i)), (3, .ref (al (20, 0, 0))), (2, .ref (al (10, 0, 0))), (1, .ref (al (0, 0, 0))), (0, .ref b)])
    (kk : ∀ (H : Heap) (locs : List Loc) (ls : Array Slot), SI E base (al (0, 0, 0)) (al (10, 0, 0)) (al (20, 0, 0)) H → va_S (xA base) s.heap H locs → lv_has ls 7 [(4, .int (nI i)), (3, .ref (al (20, 0, 0))), (2, .ref (al (10, 0, 0))), (1, .ref (al (0, 0, 0))), (0, .ref b)] → W p l e room_1 s m #[Value.ref b] below meth c H locs (cells + 30) (slots + 700) Q (F0 m 1307 ls [])) : W p l e room_1 s m #[Value.ref b] below meth c H locs cells slots Q (F0 m 1176 ls []) := by
  have hx := C.hx
  have hb := C.hb
  refine lv_aload_n hx hb dL_law_1176 rfl (lv_at hl 3 rfl) ?_
  refine lv_aload_n hx hb dL_law_1177 rfl (lv_at hl 4 rfl) ?_
  refine lv_iload hx hb dL_law_1178 (lv_at hl 0 rfl) ?_
  refine lv_iconst (v := nI 1) hx hb dL_law_1180 (by decide +kernel) ?_
  refine lv_iadd hx hb dL_law_1181 ?_
  refine lv_re (nI_add _ _) ?_
  refine va_sld C.hx C.hb hXs hbl hbA hS (vp_in_nI (by omega : i + 1 < L) (by omega)) dL_law_1182 ?_
  rw [nI_clamp (by omega)]
  obtain ⟨x1, hx1⟩ : ∃ z9, z9 = xs (i + 1) := ⟨_, rfl⟩
  rw [← hx1]
  refine lv_aload_n hx hb dL_law_1183 rfl (lv_at hl 1 rfl) ?_
  refine x_callH (k := 3) C hS (l_isSealed l hfl (E := E) (base := base) hR hI hO (x := x1)) hH qw_670 qw_0 ⟨by decide +kernel, by decide +kernel, by decide +kernel⟩ qw_669 qw_668 rfl [] rfl hl.1 (Nat.le_of_ble_eq_true rfl) ⟨(Nat.le_of_ble_eq_true rfl), (Nat.le_of_ble_eq_true rfl)⟩ dL_law_1184 ⟨by show cells + 1 ≤ 601024; omega, by show slots + 6 ≤ 7293034; omega⟩ (fun r H locs hp hS => ?_)
  rcases hp with ⟨rfl, c1, hH⟩ | ⟨rfl, f, hf, rfl, hP⟩
  · skip
    obtain ⟨al9, hal9⟩ : ∃ z : Tg → Nat, z = al := ⟨_, rfl⟩
    have hfa : ∀ t : Tg, 10 ≤ t.1 → al9 t = al t := fun t _ => by rw [hal9]
    have h09 : al9 (0, 0, 0) = al (0, 0, 0) := by rw [hal9]
    have hR9 := hR
    have hM9 := hMM
    have hO8 := hO
    rw [← hal9] at hH hR9 hM9
    have a10 := (hfa (10, 0, 0) (by decide)).symm
    have a20 := (hfa (20, 0, 0) (by decide)).symm
    refine lv_istore (lv' := [(5, .int (nI 1)), (4, .int (nI i)), (3, .ref (al (20, 0, 0))), (2, .ref (al (10, 0, 0))), (1, .ref (al (0, 0, 0))), (0, .ref b)]) hx hb dL_law_1187 hl (by decide) rfl (fun ls hl => ?_)
    refine lv_aload_n hx hb dL_law_1189 rfl (lv_at hl 3 rfl) ?_
    refine lv_aload_n hx hb dL_law_1190 rfl (lv_at hl 5 rfl) ?_
    refine lv_iload hx hb dL_law_1191 (lv_at hl 1 rfl) ?_
    refine lv_iconst (v := nI 1) hx hb dL_law_1193 (by decide +kernel) ?_
    refine lv_iadd hx hb dL_law_1194 ?_
    refine lv_re (nI_add _ _) ?_
    refine va_sld C.hx C.hb hXs hbl hbA hS (vp_in_nI (by omega : i + 1 < L) (by omega)) dL_law_1195 ?_
    rw [nI_clamp (by omega)]
    rw [← hx1]
    refine lv_adr2 a10 ?_
    refine x_callV C hH hS (ci := 8) (t := (10, 0, 0)) hM9.1 rfl rfl (m_isSealed l (E := E) (base := base) hM9 hI (x := x1)) hH kX7_isSealed qw_893 qw_894 qw_892 rfl [] rfl hl.1 (Nat.le_of_ble_eq_true rfl) ⟨(Nat.le_of_ble_eq_true rfl), (Nat.le_of_ble_eq_true rfl)⟩ dL_law_1196 ⟨by show cells + 1 + 0 ≤ 601024; omega, by show slots + 6 + 0 ≤ 7293034; omega⟩ (fun r H locs hp hS => ?_)
    obtain ⟨⟨v9, rfl⟩, hp⟩ := hp
    rcases hp with ⟨g1, hP8⟩ | ⟨p8, hp8, e8, hr8, hP8⟩
    · skip
      obtain ⟨w8, fr8, hH, hM8, hf8⟩ := hP8
      have hR8 := hR9.of (fun t ht => hf8 t (by unfold dm at ht; omega)) (fun _ _ => rfl)
      replace hO8 := (hf8 (20, 0, 0) (by decide)).trans hO8
      refine lv_istore (lv' := [(6, .int v9), (5, .int (nI 1)), (4, .int (nI i)), (3, .ref (al (20, 0, 0))), (2, .ref (al (10, 0, 0))), (1, .ref (al (0, 0, 0))), (0, .ref b)]) hx hb dL_law_1199 hl (by decide) rfl (fun ls hl => ?_)
      refine lv_aload_n hx hb dL_law_1201 rfl (lv_at hl 4 rfl) ?_
      refine lv_adr a10 ?_
      refine x_callV C hH hS (ci := 8) (t := (10, 0, 0)) hM8.1 rfl rfl (m_thrown l (E := E) (base := base) hM8 ) hH kX7_thrown qw_756 qw_757 qw_755 rfl [] rfl hl.1 (Nat.le_of_ble_eq_true rfl) ⟨(Nat.le_of_ble_eq_true rfl), (Nat.le_of_ble_eq_true rfl)⟩ dL_law_1202 ⟨by show cells + 1 + 0 ≤ 601024; omega, by show slots + 6 + 0 ≤ 7293034; omega⟩ (fun r H locs hp hS => ?_)
      obtain ⟨rfl, hH⟩ := hp
      refine lv_iload hx hb dL_law_1205 (lv_at hl 1 rfl) ?_
      refine lv_icmp_eq (tgt := 1212) hx hb dL_law_1207 (by decide) (fun c_1 => ?_) (fun c_1 => absurd (by decide +kernel) c_1)
      clear c_1
      refine lv_iload hx hb dL_law_1212 (lv_at hl 1 rfl) ?_
      refine lv_if_ne (tgt := 1236) hx hb dL_law_1214 (by decide) (fun c_2 => ?_) (fun c_2 => absurd c_2 (by decide +kernel))
      clear c_2
      refine lv_goto (tgt := 1307) hx hb dL_law_1236 (by decide) ?_
      refine W.widen (k := cells + 30) (n := slots + 700) (by show cells + 1 + 0 + 0 ≤ _; omega) (by show slots + 6 + 0 + 0 ≤ _; omega) ?_
      exact kk _ _ _ ⟨al9, w8, _, _, _, _, _, _, _, fr8, _, hH, hR8, hI, hM8, hO8, h09, a10.symm, a20.symm⟩ hS (lv_sub hl [2, 3, 4, 5, 6] rfl)
    · skip
      have g1 : inR _ nf := ⟨p8, hp8, e8⟩
      exfalso; first | exact c1 g1 | exact g1 c1 | exact c2 g2 | exact g2 c2 | exact c3 g3 | exact g3 c3 | (have q9 := (nI_eq (by have := hI.1; have := hI.2.1; have := hI.2.2.1; omega) (by have := hI.1; have := hI.2.1; have := hI.2.2.1; omega)).mp e8; subst q9; first | exact c4 g4 | exact g4 c4)
  · skip
    have c1 : inR (nI f) nf := ⟨f, hf, rfl⟩
    obtain ⟨al9, w9, fo9, hH, hR9, hO8, ho8, hfa, hfw, h09⟩ := hP
    have hM9 := hMM.mv (fun t ht => hfw t (by omega) (fun e => by rw [e] at ht; revert ht; simp)) (fun t ht => hfa t (by omega))
    have a10 := (hfa (10, 0, 0) (by decide)).symm
    have a20 := (hfa (20, 0, 0) (by decide)).symm
    refine lv_istore (lv' := [(5, .int (nI 0)), (4, .int (nI i)), (3, .ref (al (20, 0, 0))), (2, .ref (al (10, 0, 0))), (1, .ref (al (0, 0, 0))), (0, .ref b)]) hx hb dL_law_1187 hl (by decide) rfl (fun ls hl => ?_)
    refine lv_aload_n hx hb dL_law_1189 rfl (lv_at hl 3 rfl) ?_
    refine lv_aload_n hx hb dL_law_1190 rfl (lv_at hl 5 rfl) ?_
    refine lv_iload hx hb dL_law_1191 (lv_at hl 1 rfl) ?_
    refine lv_iconst (v := nI 1) hx hb dL_law_1193 (by decide +kernel) ?_
    refine lv_iadd hx hb dL_law_1194 ?_
    refine lv_re (nI_add _ _) ?_
    refine va_sld C.hx C.hb hXs hbl hbA hS (vp_in_nI (by omega : i + 1 < L) (by omega)) dL_law_1195 ?_
    rw [nI_clamp (by omega)]
    rw [← hx1]
    refine lv_adr2 a10 ?_
    refine x_callV C hH hS (ci := 8) (t := (10, 0, 0)) hM9.1 rfl rfl (m_isSealed l (E := E) (base := base) hM9 hI (x := nI f)) hH kX7_isSealed qw_893 qw_894 qw_892 rfl [] rfl hl.1 (Nat.le_of_ble_eq_true rfl) ⟨(Nat.le_of_ble_eq_true rfl), (Nat.le_of_ble_eq_true rfl)⟩ dL_law_1196 ⟨by show cells + 1 + 0 ≤ 601024; omega, by show slots + 6 + 0 ≤ 7293034; omega⟩ (fun r H locs hp hS => ?_)
    obtain ⟨⟨v9, rfl⟩, hp⟩ := hp
    rcases hp with ⟨g1, hP8⟩ | ⟨p8, hp8, e8, hr8, hP8⟩
    · skip
      exfalso; first | exact c1 g1 | exact g1 c1 | exact c2 g2 | exact g2 c2 | exact c3 g3 | exact g3 c3 | (have q9 := (nI_eq (by have := hI.1; have := hI.2.1; have := hI.2.2.1; omega) (by have := hI.1; have := hI.2.1; have := hI.2.2.1; omega)).mp e8; subst q9; first | exact c4 g4 | exact g4 c4)
    · skip
      have g1 : inR _ nf := ⟨p8, hp8, e8⟩
      have q9 := (nI_eq (by have := hI.1; have := hI.2.1; have := hI.2.2.1; omega) (by have := hI.1; have := hI.2.1; have := hI.2.2.1; omega)).mp e8
      subst q9
      have hv9 := Value.int.inj (Option.some.inj hr8)
      subst hv9
      have ho9 := ho8
      obtain ⟨w8, fr8, hH, hM8, hf8⟩ := hP8
      have hR8 := hR9.of (fun t ht => hf8 t (by unfold dm at ht; omega)) (fun _ _ => rfl)
      replace hO8 := (hf8 (20, 0, 0) (by decide)).trans hO8
      refine lv_istore (lv' := [(6, .int (ob (decide (nI nw ≤ sg 2 f 0)))), (5, .int (nI 0)), (4, .int (nI i)), (3, .ref (al (20, 0, 0))), (2, .ref (al (10, 0, 0))), (1, .ref (al (0, 0, 0))), (0, .ref b)]) hx hb dL_law_1199 hl (by decide) rfl (fun ls hl => ?_)
      refine lv_aload_n hx hb dL_law_1201 rfl (lv_at hl 4 rfl) ?_
      refine lv_adr a10 ?_
      refine x_callV C hH hS (ci := 8) (t := (10, 0, 0)) hM8.1 rfl rfl (m_thrown l (E := E) (base := base) hM8 ) hH kX7_thrown qw_756 qw_757 qw_755 rfl [] rfl hl.1 (Nat.le_of_ble_eq_true rfl) ⟨(Nat.le_of_ble_eq_true rfl), (Nat.le_of_ble_eq_true rfl)⟩ dL_law_1202 ⟨by show cells + 1 + 0 ≤ 601024; omega, by show slots + 6 + 0 ≤ 7293034; omega⟩ (fun r H locs hp hS => ?_)
      obtain ⟨rfl, hH⟩ := hp
      refine lv_iload hx hb dL_law_1205 (lv_at hl 1 rfl) ?_
      refine lv_icmp_eq (tgt := 1212) hx hb dL_law_1207 (by decide) (fun c_3 => ?_) (fun c_3 => absurd (by decide +kernel) c_3)
      clear c_3
      refine lv_iload hx hb dL_law_1212 (lv_at hl 1 rfl) ?_
      refine lv_if_ne (tgt := 1236) hx hb dL_law_1214 (by decide) (fun c_4 => absurd (by decide +kernel) c_4) (fun c_4 => ?_)
      clear c_4
      refine lv_aload_n hx hb dL_law_1217 rfl (lv_at hl 3 rfl) ?_
      refine lv_iconst (v := nI 0) hx hb dL_law_1218 (by decide +kernel) ?_
      refine lv_adr2 a20 ?_
      refine x_lald C hH hO8 (j := 0) rfl (by omega) (by omega) dL_law_1219 ?_
      rw [ho9]
      refine lv_iload hx hb dL_law_1220 (lv_at hl 0 rfl) ?_
      refine lv_if_eq (tgt := 1229) hx hb dL_law_1222 (by decide) (fun c_5 => ?_) (fun c_5 => ?_)
      · skip
        replace c_5 := ob_0.mp c_5
        refine lv_lconst (v := 0) hx hb dL_law_1229 (by decide +kernel) ?_
        refine lv_lcmp hx hb dL_law_1230 ?_
        refine lv_re (y := nI 0) (by rw [c_5]; decide +kernel) ?_
        refine lv_if_eq (tgt := 1236) hx hb dL_law_1231 (by decide) (fun c_6 => ?_) (fun c_6 => absurd (by decide +kernel) c_6)
        clear c_6
        refine lv_goto (tgt := 1307) hx hb dL_law_1236 (by decide) ?_
        refine W.widen (k := cells + 30) (n := slots + 700) (by show cells + 1 + 0 + 0 ≤ _; omega) (by show slots + 6 + 0 + 0 ≤ _; omega) ?_
        exact kk _ _ _ ⟨al9, w8, _, _, _, _, _, _, _, fr8, _, hH, hR8, hI, hM8, hO8, h09, a10.symm, a20.symm⟩ hS (lv_sub hl [2, 3, 4, 5, 6] rfl)
      · skip
        replace c_5 := ob_n.mp c_5
        refine lv_lconst (v := 1) hx hb dL_law_1225 (by decide +kernel) ?_
        refine lv_goto (tgt := 1230) hx hb dL_law_1226 (by decide) ?_
        refine lv_lcmp hx hb dL_law_1230 ?_
        refine lv_re (y := nI 0) (by rw [c_5]; decide +kernel) ?_
        refine lv_if_eq (tgt := 1236) hx hb dL_law_1231 (by decide) (fun c_7 => ?_) (fun c_7 => absurd (by decide +kernel) c_7)
        clear c_7
        refine lv_goto (tgt := 1307) hx hb dL_law_1236 (by decide) ?_
        refine W.widen (k := cells + 30) (n := slots + 700) (by show cells + 1 + 0 + 0 ≤ _; omega) (by show slots + 6 + 0 + 0 ≤ _; omega) ?_
        exact kk _ _ _ ⟨al9, w8, _, _, _, _, _, _, _, fr8, _, hH, hR8, hI, hM8, hO8, h09, a10.symm, a20.symm⟩ hS (lv_sub hl [2, 3, 4, 5, 6] rfl)
