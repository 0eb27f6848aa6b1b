def SI (E : xE) (base A0 A1 A2 : Nat) (H : Heap) : Prop :=
  ∃ (al : Tg → Nat) (w : Tg → Option va_E) (nf np na nw : Nat) (sg : Nat → Nat → Nat → Int32) (rc : Nat → Bool) (th : Int32) (fr : Nat → Int32) (fo : Nat → Int64), xH E base al w H ∧ RM E al w nf np na nw sg rc ∧ INV nf np na nw sg rc ∧ MMf E al w th nf np na nw sg rc fr ∧ w (20, 0, 0) = some (.inl (E.2.1 1, 1, .inr (.inl fo))) ∧ al (0, 0, 0) = A0 ∧ al (10, 0, 0) = A1 ∧ al (20, 0, 0) = A2
set_option maxHeartbeats 4000000 in
set_option maxRecDepth 100000 in
theorem op_seal (l : Launch) (hfl : l.stackTraces = false) {p : Program} {e : Env} {s : State} {m : MethodId} {below : List Frame} {meth : Method} {c : Code} {ret9 : Option FieldType} {E : xE} {base b L : Nat} {xs : Nat → Int32} {Q : State → Prop} (C : XC p s m #[Value.ref b] meth c "DataroomLaw" cL_law 7 ret9 E base) (hXs : va_X b L xs s s.heap) (hbl : b < s.heap.size) (hbA : ¬ xA base b) {cells slots i : Nat} (hcs : cells + 30 ≤ 601024) (hss : slots + 700 ≤ 7293034) (hi : i + 6 ≤ L) (hL : L ≤ 3072)
    {al : Tg → Nat} {w : Tg → Option va_E} {nf np na nw : Nat} {sg : Nat → Nat → Nat → Int32} {rc : Nat → Bool} {th : Int32} {fr : Nat → Int32} {fo : Nat → Int64} (hR : RM E al w nf np na nw sg rc) (hI : INV nf np na nw sg rc) (hMM : MMf E al w th nf np na nw sg rc fr) (hO : w (20, 0, 0) = some (.inl (E.2.1 1, 1, .inr (.inl fo)))) {H : Heap} {locs : List Loc} {ls : Array Slot} (hH : xH E base al w H) (hS : va_S (xA base) s.heap H locs) (hl : lv_has ls 7 [(4, .int (nI i)), (3, .ref (al (20, 0, 0))), (2, .ref (al (10, 0, 0))), (1, .ref (al (0, 0, 0))), (0, .ref b)])
    (kk : ∀ (H : Heap) (locs : List Loc) (ls : Array Slot), SI E base (al (0, 0, 0)) (al (10, 0, 0)) (al (20, 0, 0)) H → va_S (xA base) s.heap H locs → lv_has ls 7 [(4, .int (nI i)), (3, .ref (al (20, 0, 0))), (2, .ref (al (10, 0, 0))), (1, .ref (al (0, 0, 0))), (0, .ref b)] → W p l e room_1 s m #[Value.ref b] below meth c H locs (cells + 30) (slots + 700) Q (F0 m 1307 ls [])) : W p l e room_1 s m #[Value.ref b] below meth c H locs cells slots Q (F0 m 528 ls []) := by
  have hx := C.hx
  have hb := C.hb
  refine lv_aload_n hx hb dL_law_528 rfl (lv_at hl 3 rfl) ?_
  refine lv_aload_n hx hb dL_law_529 rfl (lv_at hl 4 rfl) ?_
  refine lv_iload hx hb dL_law_530 (lv_at hl 0 rfl) ?_
  refine lv_iconst (v := nI 1) hx hb dL_law_532 (by decide +kernel) ?_
  refine lv_iadd hx hb dL_law_533 ?_
  refine lv_re (nI_add _ _) ?_
  refine va_sld C.hx C.hb hXs hbl hbA hS (vp_in_nI (by omega : i + 1 < L) (by omega)) dL_law_534 ?_
  rw [nI_clamp (by omega)]
  obtain ⟨x1, hx1⟩ : ∃ z9, z9 = xs (i + 1) := ⟨_, rfl⟩
  rw [← hx1]
  refine lv_aload_n hx hb dL_law_535 rfl (lv_at hl 4 rfl) ?_
  refine lv_iload hx hb dL_law_536 (lv_at hl 0 rfl) ?_
  refine lv_iconst (v := nI 2) hx hb dL_law_538 (by decide +kernel) ?_
  refine lv_iadd hx hb dL_law_539 ?_
  refine lv_re (nI_add _ _) ?_
  refine va_sld C.hx C.hb hXs hbl hbA hS (vp_in_nI (by omega : i + 2 < L) (by omega)) dL_law_540 ?_
  rw [nI_clamp (by omega)]
  obtain ⟨x2, hx2⟩ : ∃ z9, z9 = xs (i + 2) := ⟨_, rfl⟩
  rw [← hx2]
  refine x_callH (k := 3) C hS (l_seal l hfl (E := E) (base := base) hR hI (x := x1) (y := x2)) hH qw_454 qw_0 ⟨by decide +kernel, by decide +kernel, by decide +kernel⟩ qw_453 qw_452 rfl [] rfl hl.1 (Nat.le_of_ble_eq_true rfl) ⟨(Nat.le_of_ble_eq_true rfl), (Nat.le_of_ble_eq_true rfl)⟩ dL_law_541 ⟨by show cells + 2 ≤ 601024; omega, by show slots + 12 ≤ 7293034; omega⟩ (fun r H locs hp hS => ?_)
  rcases hp with ⟨rfl, c1, hH⟩ | ⟨rfl, c1, c2, hH⟩ | ⟨rfl, f, hf, rfl, c2, hP⟩
  · skip
    obtain ⟨al9, hal9⟩ : ∃ z : Tg → Nat, z = al := ⟨_, rfl⟩
    have hfa : ∀ t : Tg, 10 ≤ t.1 → al9 t = al t := fun t _ => by rw [hal9]
    have h09 : al9 (0, 0, 0) = al (0, 0, 0) := by rw [hal9]
    have hR9 := hR
    have hM9 := hMM
    have hO8 := hO
    rw [← hal9] at hH hR9 hM9
    have a10 := (hfa (10, 0, 0) (by decide)).symm
    have a20 := (hfa (20, 0, 0) (by decide)).symm
    refine lv_istore (lv' := [(5, .int (nI 1)), (4, .int (nI i)), (3, .ref (al (20, 0, 0))), (2, .ref (al (10, 0, 0))), (1, .ref (al (0, 0, 0))), (0, .ref b)]) hx hb dL_law_544 hl (by decide) rfl (fun ls hl => ?_)
    refine lv_aload_n hx hb dL_law_546 rfl (lv_at hl 3 rfl) ?_
    refine lv_aload_n hx hb dL_law_547 rfl (lv_at hl 5 rfl) ?_
    refine lv_iload hx hb dL_law_548 (lv_at hl 1 rfl) ?_
    refine lv_iconst (v := nI 1) hx hb dL_law_550 (by decide +kernel) ?_
    refine lv_iadd hx hb dL_law_551 ?_
    refine lv_re (nI_add _ _) ?_
    refine va_sld C.hx C.hb hXs hbl hbA hS (vp_in_nI (by omega : i + 1 < L) (by omega)) dL_law_552 ?_
    rw [nI_clamp (by omega)]
    rw [← hx1]
    refine lv_aload_n hx hb dL_law_553 rfl (lv_at hl 5 rfl) ?_
    refine lv_iload hx hb dL_law_554 (lv_at hl 1 rfl) ?_
    refine lv_iconst (v := nI 2) hx hb dL_law_556 (by decide +kernel) ?_
    refine lv_iadd hx hb dL_law_557 ?_
    refine lv_re (nI_add _ _) ?_
    refine va_sld C.hx C.hb hXs hbl hbA hS (vp_in_nI (by omega : i + 2 < L) (by omega)) dL_law_558 ?_
    rw [nI_clamp (by omega)]
    rw [← hx2]
    refine lv_adr3 a10 ?_
    refine x_callV C hH hS (ci := 8) (t := (10, 0, 0)) hM9.1 rfl rfl (m_seal l (E := E) (base := base) hM9 hI (x := x1) (y := x2)) hH kX7_seal qw_803 qw_804 qw_802 rfl [] rfl hl.1 (Nat.le_of_ble_eq_true rfl) ⟨(Nat.le_of_ble_eq_true rfl), (Nat.le_of_ble_eq_true rfl)⟩ dL_law_559 ⟨by show cells + 2 + 0 ≤ 601024; omega, by show slots + 12 + 0 ≤ 7293034; omega⟩ (fun r H locs hp hS => ?_)
    obtain ⟨rfl, hp⟩ := hp
    rcases hp with ⟨g1, hP8⟩ | ⟨g1, g2, hP8⟩ | ⟨f8, hf8, e8, g2, hr8, hP8⟩
    · skip
      obtain ⟨w8, fr8, hH, hM8, hf8⟩ := hP8
      have hR8 := hR9.of (fun t ht => hf8 t (by unfold dm at ht; omega)) (fun _ _ => rfl)
      replace hO8 := (hf8 (20, 0, 0) (by decide)).trans hO8
      refine lv_aload_n hx hb dL_law_562 rfl (lv_at hl 3 rfl) ?_
      refine lv_adr a10 ?_
      refine x_callV C hH hS (ci := 8) (t := (10, 0, 0)) hM8.1 rfl rfl (m_thrown l (E := E) (base := base) hM8 ) hH kX7_thrown qw_756 qw_757 qw_755 rfl [] rfl hl.1 (Nat.le_of_ble_eq_true rfl) ⟨(Nat.le_of_ble_eq_true rfl), (Nat.le_of_ble_eq_true rfl)⟩ dL_law_563 ⟨by show cells + 2 + 0 ≤ 601024; omega, by show slots + 12 + 0 ≤ 7293034; omega⟩ (fun r H locs hp hS => ?_)
      obtain ⟨rfl, hH⟩ := hp
      refine lv_iload hx hb dL_law_566 (lv_at hl 0 rfl) ?_
      refine lv_icmp_eq (tgt := 573) hx hb dL_law_568 (by decide) (fun c_1 => ?_) (fun c_1 => absurd (by decide +kernel) c_1)
      clear c_1
      refine lv_goto (tgt := 1307) hx hb dL_law_573 (by decide) ?_
      refine W.widen (k := cells + 30) (n := slots + 700) (by show cells + 2 + 0 + 0 ≤ _; omega) (by show slots + 12 + 0 + 0 ≤ _; omega) ?_
      exact kk _ _ _ ⟨al9, w8, _, _, _, _, _, _, _, fr8, _, hH, hR8, hI, hM8, hO8, h09, a10.symm, a20.symm⟩ hS (lv_sub hl [1, 2, 3, 4, 5] rfl)
    · skip
      exfalso; first | exact c1 g1 | exact g1 c1 | exact c2 g2 | exact g2 c2 | exact c3 g3 | exact g3 c3
    · skip
      have g1 : inR _ nf := ⟨f8, hf8, e8⟩
      exfalso; first | exact c1 g1 | exact g1 c1 | exact c2 g2 | exact g2 c2 | exact c3 g3 | exact g3 c3
  · skip
    obtain ⟨al9, hal9⟩ : ∃ z : Tg → Nat, z = al := ⟨_, rfl⟩
    have hfa : ∀ t : Tg, 10 ≤ t.1 → al9 t = al t := fun t _ => by rw [hal9]
    have h09 : al9 (0, 0, 0) = al (0, 0, 0) := by rw [hal9]
    have hR9 := hR
    have hM9 := hMM
    have hO8 := hO
    rw [← hal9] at hH hR9 hM9
    have a10 := (hfa (10, 0, 0) (by decide)).symm
    have a20 := (hfa (20, 0, 0) (by decide)).symm
    refine lv_istore (lv' := [(5, .int (nI 2)), (4, .int (nI i)), (3, .ref (al (20, 0, 0))), (2, .ref (al (10, 0, 0))), (1, .ref (al (0, 0, 0))), (0, .ref b)]) hx hb dL_law_544 hl (by decide) rfl (fun ls hl => ?_)
    refine lv_aload_n hx hb dL_law_546 rfl (lv_at hl 3 rfl) ?_
    refine lv_aload_n hx hb dL_law_547 rfl (lv_at hl 5 rfl) ?_
    refine lv_iload hx hb dL_law_548 (lv_at hl 1 rfl) ?_
    refine lv_iconst (v := nI 1) hx hb dL_law_550 (by decide +kernel) ?_
    refine lv_iadd hx hb dL_law_551 ?_
    refine lv_re (nI_add _ _) ?_
    refine va_sld C.hx C.hb hXs hbl hbA hS (vp_in_nI (by omega : i + 1 < L) (by omega)) dL_law_552 ?_
    rw [nI_clamp (by omega)]
    rw [← hx1]
    refine lv_aload_n hx hb dL_law_553 rfl (lv_at hl 5 rfl) ?_
    refine lv_iload hx hb dL_law_554 (lv_at hl 1 rfl) ?_
    refine lv_iconst (v := nI 2) hx hb dL_law_556 (by decide +kernel) ?_
    refine lv_iadd hx hb dL_law_557 ?_
    refine lv_re (nI_add _ _) ?_
    refine va_sld C.hx C.hb hXs hbl hbA hS (vp_in_nI (by omega : i + 2 < L) (by omega)) dL_law_558 ?_
    rw [nI_clamp (by omega)]
    rw [← hx2]
    refine lv_adr3 a10 ?_
    refine x_callV C hH hS (ci := 8) (t := (10, 0, 0)) hM9.1 rfl rfl (m_seal l (E := E) (base := base) hM9 hI (x := x1) (y := x2)) hH kX7_seal qw_803 qw_804 qw_802 rfl [] rfl hl.1 (Nat.le_of_ble_eq_true rfl) ⟨(Nat.le_of_ble_eq_true rfl), (Nat.le_of_ble_eq_true rfl)⟩ dL_law_559 ⟨by show cells + 2 + 0 ≤ 601024; omega, by show slots + 12 + 0 ≤ 7293034; omega⟩ (fun r H locs hp hS => ?_)
    obtain ⟨rfl, hp⟩ := hp
    rcases hp with ⟨g1, hP8⟩ | ⟨g1, g2, hP8⟩ | ⟨f8, hf8, e8, g2, hr8, hP8⟩
    · skip
      exfalso; first | exact c1 g1 | exact g1 c1 | exact c2 g2 | exact g2 c2 | exact c3 g3 | exact g3 c3
    · skip
      obtain ⟨w8, fr8, hH, hM8, hf8⟩ := hP8
      have hR8 := hR9.of (fun t ht => hf8 t (by unfold dm at ht; omega)) (fun _ _ => rfl)
      replace hO8 := (hf8 (20, 0, 0) (by decide)).trans hO8
      refine lv_aload_n hx hb dL_law_562 rfl (lv_at hl 3 rfl) ?_
      refine lv_adr a10 ?_
      refine x_callV C hH hS (ci := 8) (t := (10, 0, 0)) hM8.1 rfl rfl (m_thrown l (E := E) (base := base) hM8 ) hH kX7_thrown qw_756 qw_757 qw_755 rfl [] rfl hl.1 (Nat.le_of_ble_eq_true rfl) ⟨(Nat.le_of_ble_eq_true rfl), (Nat.le_of_ble_eq_true rfl)⟩ dL_law_563 ⟨by show cells + 2 + 0 ≤ 601024; omega, by show slots + 12 + 0 ≤ 7293034; omega⟩ (fun r H locs hp hS => ?_)
      obtain ⟨rfl, hH⟩ := hp
      refine lv_iload hx hb dL_law_566 (lv_at hl 0 rfl) ?_
      refine lv_icmp_eq (tgt := 573) hx hb dL_law_568 (by decide) (fun c_2 => ?_) (fun c_2 => absurd (by decide +kernel) c_2)
      clear c_2
      refine lv_goto (tgt := 1307) hx hb dL_law_573 (by decide) ?_
      refine W.widen (k := cells + 30) (n := slots + 700) (by show cells + 2 + 0 + 0 ≤ _; omega) (by show slots + 12 + 0 + 0 ≤ _; omega) ?_
      exact kk _ _ _ ⟨al9, w8, _, _, _, _, _, _, _, fr8, _, hH, hR8, hI, hM8, hO8, h09, a10.symm, a20.symm⟩ hS (lv_sub hl [1, 2, 3, 4, 5] rfl)
    · skip
      have g1 : inR _ nf := ⟨f8, hf8, e8⟩
      exfalso; first | exact c1 g1 | exact g1 c1 | exact c2 g2 | exact g2 c2 | exact c3 g3 | exact g3 c3
  · skip
    have c1 : inR (nI f) nf := ⟨f, hf, rfl⟩
    obtain ⟨al9, w9, hH, hR9, hf9, h09⟩ := hP
    have hO8 : w9 (20, 0, 0) = _ := (hf9 (20, 0, 0) (by decide)).1.trans hO
    have hfa : ∀ t : Tg, 10 ≤ t.1 → al9 t = al t := fun t ht => (hf9 t ht).2
    have hM9 := hMM.mv (fun t ht => (hf9 t (by omega)).1) (fun t ht => hfa t (by omega))
    have a10 := (hfa (10, 0, 0) (by decide)).symm
    have a20 := (hfa (20, 0, 0) (by decide)).symm
    refine lv_istore (lv' := [(5, .int (nI 0)), (4, .int (nI i)), (3, .ref (al (20, 0, 0))), (2, .ref (al (10, 0, 0))), (1, .ref (al (0, 0, 0))), (0, .ref b)]) hx hb dL_law_544 hl (by decide) rfl (fun ls hl => ?_)
    refine lv_aload_n hx hb dL_law_546 rfl (lv_at hl 3 rfl) ?_
    refine lv_aload_n hx hb dL_law_547 rfl (lv_at hl 5 rfl) ?_
    refine lv_iload hx hb dL_law_548 (lv_at hl 1 rfl) ?_
    refine lv_iconst (v := nI 1) hx hb dL_law_550 (by decide +kernel) ?_
    refine lv_iadd hx hb dL_law_551 ?_
    refine lv_re (nI_add _ _) ?_
    refine va_sld C.hx C.hb hXs hbl hbA hS (vp_in_nI (by omega : i + 1 < L) (by omega)) dL_law_552 ?_
    rw [nI_clamp (by omega)]
    rw [← hx1]
    refine lv_aload_n hx hb dL_law_553 rfl (lv_at hl 5 rfl) ?_
    refine lv_iload hx hb dL_law_554 (lv_at hl 1 rfl) ?_
    refine lv_iconst (v := nI 2) hx hb dL_law_556 (by decide +kernel) ?_
    refine lv_iadd hx hb dL_law_557 ?_
    refine lv_re (nI_add _ _) ?_
    refine va_sld C.hx C.hb hXs hbl hbA hS (vp_in_nI (by omega : i + 2 < L) (by omega)) dL_law_558 ?_
    rw [nI_clamp (by omega)]
    rw [← hx2]
    refine lv_adr3 a10 ?_
    refine x_callV C hH hS (ci := 8) (t := (10, 0, 0)) hM9.1 rfl rfl (m_seal l (E := E) (base := base) hM9 hI (x := nI f) (y := x2)) hH kX7_seal qw_803 qw_804 qw_802 rfl [] rfl hl.1 (Nat.le_of_ble_eq_true rfl) ⟨(Nat.le_of_ble_eq_true rfl), (Nat.le_of_ble_eq_true rfl)⟩ dL_law_559 ⟨by show cells + 2 + 0 ≤ 601024; omega, by show slots + 12 + 0 ≤ 7293034; omega⟩ (fun r H locs hp hS => ?_)
    obtain ⟨rfl, hp⟩ := hp
    rcases hp with ⟨g1, hP8⟩ | ⟨g1, g2, hP8⟩ | ⟨f8, hf8, e8, g2, hr8, hP8⟩
    · skip
      exfalso; first | exact c1 g1 | exact g1 c1 | exact c2 g2 | exact g2 c2 | exact c3 g3 | exact g3 c3
    · skip
      exfalso; first | exact c1 g1 | exact g1 c1 | exact c2 g2 | exact g2 c2 | exact c3 g3 | exact g3 c3
    · skip
      have g1 : inR _ nf := ⟨f8, hf8, e8⟩
      have q9 := (nI_eq (by have := hI.1; omega) (by have := hI.1; omega)).mp e8
      subst q9
      obtain ⟨w8, fr8, hH, hM8, hf8⟩ := hP8
      have hR8 := hR9.of (fun t ht => hf8 t (by unfold dm at ht; omega)) (fun _ _ => rfl)
      replace hO8 := (hf8 (20, 0, 0) (by decide)).trans hO8
      refine lv_aload_n hx hb dL_law_562 rfl (lv_at hl 3 rfl) ?_
      refine lv_adr a10 ?_
      refine x_callV C hH hS (ci := 8) (t := (10, 0, 0)) hM8.1 rfl rfl (m_thrown l (E := E) (base := base) hM8 ) hH kX7_thrown qw_756 qw_757 qw_755 rfl [] rfl hl.1 (Nat.le_of_ble_eq_true rfl) ⟨(Nat.le_of_ble_eq_true rfl), (Nat.le_of_ble_eq_true rfl)⟩ dL_law_563 ⟨by show cells + 2 + 0 ≤ 601024; omega, by show slots + 12 + 0 ≤ 7293034; omega⟩ (fun r H locs hp hS => ?_)
      obtain ⟨rfl, hH⟩ := hp
      refine lv_iload hx hb dL_law_566 (lv_at hl 0 rfl) ?_
      refine lv_icmp_eq (tgt := 573) hx hb dL_law_568 (by decide) (fun c_3 => ?_) (fun c_3 => absurd (by decide +kernel) c_3)
      clear c_3
      refine lv_goto (tgt := 1307) hx hb dL_law_573 (by decide) ?_
      refine W.widen (k := cells + 30) (n := slots + 700) (by show cells + 2 + 0 + 0 ≤ _; omega) (by show slots + 12 + 0 + 0 ≤ _; omega) ?_
      exact kk _ _ _ ⟨al9, w8, _, _, _, _, _, _, _, fr8, _, hH, hR8, INV_seal hI hf, hM8, hO8, h09, a10.symm, a20.symm⟩ hS (lv_sub hl [1, 2, 3, 4, 5] rfl)
