theorem MMf.fr {E : xE} {al : Tg → Nat} {w : Tg → Option va_E} {th : Int32} {nf np na nw : Nat} {sg : Nat → Nat → Nat → Int32} {rc : Nat → Bool} {fr : Nat → Int32} (h : MMf E al w th nf np na nw sg rc fr) (g : Nat → Int32) : MMf E al (xu w (10, 18, 0) (.inl (E.2.1 0, 16, .inl g))) th nf np na nw sg rc g := by
  obtain ⟨hM, mm3, mm4, mm6, mm7, mm8, mm9, mm11, mm12, mm13, mm14, mm15, mm16, mm17, mm18⟩ := h
  exact ⟨xu_of (by simp) hM, xu_of (by simp) mm3, xu_of (by simp) mm4, xu_of (by simp) mm6, xu_of (by simp) mm7, xu_of (by simp) mm8, xu_of (by simp) mm9, xu_of (by simp) mm11, xu_of (by simp) mm12, xu_of (by simp) mm13, xu_of (by simp) mm14, xu_of (by simp) mm15, xu_of (by simp) mm16, xu_of (by simp) mm17, xu_self _ _ _⟩
def wb (x v : Int32) : Bool := bt x v.toNatClampNeg
theorem wb_nI {x : Int32} {q : Nat} (h : q < 2 ^ 31) : wb x (nI q) = bt x q := by unfold wb; rw [nI_clamp h]
theorem wb_eq {x v : Int32} {np : Nat} (h : ∃ p, p < np ∧ v = nI p) (h6 : np ≤ 6) : (x >>> (v &&& 31)) &&& nI 1 = ob (wb x v) := by
  obtain ⟨q, hq, rfl⟩ := h
  rw [wb_nI (by omega)]
  exact hd_bt x (by omega)
/-- an answer stands and was told to one of x, of the bit -/
def kc (sg : Nat → Nat → Nat → Int32) (rc : Nat → Bool) (x : Int32) (b : Nat) (a : Nat) : Bool := (!rc a && wb x (sg 7 a 0)) && cov (sg 9 a 0) b
set_option maxHeartbeats 4000000 in
set_option maxRecDepth 100000 in
theorem m_know (l : Launch) {E : xE} {base : Nat} {al : Tg → Nat} {w : Tg → Option va_E} {th : Int32} {nf np na nw : Nat} {sg : Nat → Nat → Nat → Int32} {rc : Nat → Bool} {fr : Nat → Int32} (hMM : MMf E al w th nf np na nw sg rc fr) (hI : INV nf np na nw sg rc) {x : Int32} {b : Nat} (hb8 : b < 8) : xMet l yX7_know cX7_know 6 (some (.int)) ({ frames := 2, cells := 0, slots := 0, locals := 45 } : Room) E base [.ref (al (10, 0, 0)), .int x, .int (nI b)] (fun H => xH E base al w H) (fun r H => r = some (.int (nI (mct (kc sg rc x b) (sets sg) na))) ∧ xH E base al (xu w (10, 18, 0) (.inl (E.2.1 0, 16, .inl (mrw (kc sg rc x b) (sets sg) na)))) H) := by
  refine xMet.of (by decide +kernel) "DataroomModel" rfl (Nat.le_of_ble_eq_true rfl) ?_
  intro p9 e9 s m9 below meth c9 ls C hin hP hS hl
  have hx := C.hx
  have hb := C.hb
  have hH := hP
  have hl : lv_has ls 6 [(0, .ref (al (10, 0, 0))), (1, .int x), (2, .int (nI b))] := hl
  obtain ⟨post, hpost⟩ : ∃ zz9 : Option Value → Heap → Prop, zz9 = (fun r H => r = some (.int (nI (mct (kc sg rc x b) (sets sg) na))) ∧ xH E base al (xu w (10, 18, 0) (.inl (E.2.1 0, 16, .inl (mrw (kc sg rc x b) (sets sg) na)))) H) := ⟨_, rfl⟩
  rw [← hpost]
  generalize hQ : (MQ below (xQ base post) ([.ref (al (10, 0, 0)), .int x, .int (nI b)] : List Value).toArray s 0 0 (xA base)) = Q
  have hMM0 := hMM
  obtain ⟨hM, mm3, mm4, mm6, mm7, mm8, mm9, mm11, mm12, mm13, mm14, mm15, mm16, mm17, mm18⟩ := hMM
  have hI0 := hI
  obtain ⟨v16, v6, v150, vnow, vA, vS, vP, vK, vR⟩ := hI
  have h16 : ∀ a, a < na → sml 16 (sg 8 a 0) := fun a ha j hj => (vA a ha).2.1 j (by omega)
  refine lv_iconst (v := nI 0) hx hb dX7_know_0 (by decide +kernel) ?_
  refine lv_istore_n (lv' := [(3, .int (nI 0)), (0, .ref (al (10, 0, 0))), (1, .int x), (2, .int (nI b))]) hx hb dX7_know_1 rfl hl (by decide) rfl (fun ls hl => ?_)
  have lp2 : ∀ (i : Nat), i ≤ 16 → ∀  (H : Heap) (locs : List Loc) (ls : Array Slot), xH E base al (xu w (10, 18, 0) (.inl (E.2.1 0, 16, .inl (fz fr i)))) H → va_S (xA base) s.heap H locs → lv_has ls 6 [(3, .int (nI i)), (2, .int (nI b)), (1, .int x), (0, .ref (al (10, 0, 0)))] → W p9 l e9 ({ frames := 2, cells := 0, slots := 0, locals := 45 } : Room) s m9 ([.ref (al (10, 0, 0)), .int x, .int (nI b)] : List Value).toArray below meth c9 H locs 0 0 Q (F0 m9 2 ls []) := by
    refine lp_up ?_
    intro i hii ih2  H locs ls hH hS hl
    have hMM1 := hMM0.fr (fz fr i)
    have hMMx := hMM1
    obtain ⟨hM, mm3, mm4, mm6, mm7, mm8, mm9, mm11, mm12, mm13, mm14, mm15, mm16, mm17, mm18⟩ := hMMx
    refine lv_iload_n hx hb dX7_know_2 rfl (lv_at hl 0 rfl) ?_
    refine lv_bipush (v := nI 16) hx hb dX7_know_3 (by decide +kernel) ?_
    refine lv_icmp_ge (tgt := 21) hx hb dX7_know_5 (by decide) (fun c_1 => ?_) (fun c_1 => ?_)
    · skip
      replace c_1 := (nI_leI (by omega) (by omega)).mp c_1
      have e16 : i = 16 := by omega
      rw [e16] at hH
      replace hH := x_arrI (g := fun _ => 0) (fun j hj => if_pos hj) hH
      refine lv_iconst (v := nI 0) hx hb dX7_know_21 (by decide +kernel) ?_
      refine lv_istore_n (lv' := [(3, .int (nI 0)), (2, .int (nI b)), (1, .int x), (0, .ref (al (10, 0, 0)))]) hx hb dX7_know_22 rfl hl (by decide) rfl (fun ls hl => ?_)
      refine lv_iconst (v := nI 0) hx hb dX7_know_23 (by decide +kernel) ?_
      refine lv_istore (lv' := [(4, .int (nI 0)), (3, .int (nI 0)), (2, .int (nI b)), (1, .int x), (0, .ref (al (10, 0, 0)))]) hx hb dX7_know_24 hl (by decide) rfl (fun ls hl => ?_)
      have lp26 : ∀ (i : Nat), i ≤ na → ∀ (y : Nat) (H : Heap) (locs : List Loc) (ls : Array Slot), y = (mct (kc sg rc x b) (sets sg) i) → xH E base al (xu w (10, 18, 0) (.inl (E.2.1 0, 16, .inl (mrw (kc sg rc x b) (sets sg) i)))) H → va_S (xA base) s.heap H locs → lv_has ls 6 [(4, .int (nI i)), (3, .int (nI y)), (2, .int (nI b)), (1, .int x), (0, .ref (al (10, 0, 0)))] → W p9 l e9 ({ frames := 2, cells := 0, slots := 0, locals := 45 } : Room) s m9 ([.ref (al (10, 0, 0)), .int x, .int (nI b)] : List Value).toArray below meth c9 H locs 0 0 Q (F0 m9 26 ls []) := by
        refine lp_up ?_
        intro i hii ih26 y H locs ls hy hH hS hl
        have hMM1 := hMM0.fr (mrw (kc sg rc x b) (sets sg) i)
        have hMMx := hMM1
        obtain ⟨hM, mm3, mm4, mm6, mm7, mm8, mm9, mm11, mm12, mm13, mm14, mm15, mm16, mm17, mm18⟩ := hMMx
        refine lv_iload hx hb dX7_know_26 (lv_at hl 0 rfl) ?_
        refine lv_aload_n hx hb dX7_know_28 rfl (lv_at hl 4 rfl) ?_
        refine x_get C hH (ci := 8) (T := TX7) (N := 19) hM rfl iWX7 10 (by decide) qw_706 rfl rfl dX7_know_29 ?_
        refine lv_icmp_ge (tgt := 122) hx hb dX7_know_32 (by decide) (fun c_2 => ?_) (fun c_2 => ?_)
        · skip
          replace c_2 := (nI_leI (by omega) (by omega)).mp c_2
          refine lv_iload_n hx hb dX7_know_122 rfl (lv_at hl 1 rfl) ?_
          rw [← hQ]
          refine x_reti C rfl hS (Nat.le_of_ble_eq_true rfl) (Nat.le_of_ble_eq_true rfl) dX7_know_123 ?_
          rw [hpost]
          have e8 : i = na := by omega
          rw [e8] at hH hy
          exact ⟨by rw [hy], hH⟩
        · skip
          replace c_2 := mt (nI_leI (by omega) (by omega)).mpr c_2
          refine lv_aload_n hx hb dX7_know_35 rfl (lv_at hl 4 rfl) ?_
          refine x_get C hH (ci := 8) (T := TX7) (N := 19) hM rfl iWX7 16 (by decide) qw_712 rfl rfl dX7_know_36 ?_
          refine lv_iload hx hb dX7_know_39 (lv_at hl 0 rfl) ?_
          refine x_zald C hH mm16 (j := i) rfl (by omega) (by omega) dX7_know_41 ?_
          refine lv_if_ne (tgt := 86) hx hb dX7_know_42 (by decide) (fun c_3 => ?_) (fun c_3 => ?_)
          · skip
            replace c_3 := ob_n.mp c_3
            refine lv_iconst (v := nI 0) hx hb dX7_know_86 (by decide +kernel) ?_
            refine lv_istore (lv' := [(5, .int (nI 0)), (4, .int (nI i)), (3, .int (nI y)), (2, .int (nI b)), (1, .int x), (0, .ref (al (10, 0, 0)))]) hx hb dX7_know_87 hl (by decide) rfl (fun ls hl => ?_)
            refine lv_iload_n hx hb dX7_know_89 rfl (lv_at hl 2 rfl) ?_
            refine lv_iload hx hb dX7_know_90 (lv_at hl 0 rfl) ?_
            refine lv_if_eq (tgt := 113) hx hb dX7_know_92 (by decide) (fun c_4 => ?_) (fun c_4 => absurd (by decide +kernel) c_4)
            clear c_4
            refine lv_iconst (v := nI 0) hx hb dX7_know_113 (by decide +kernel) ?_
            refine lv_iadd hx hb dX7_know_114 ?_
            refine lv_re (nI_add _ _) ?_
            refine lv_istore_n (lv' := [(3, .int (nI (y + 0))), (5, .int (nI 0)), (4, .int (nI i)), (2, .int (nI b)), (1, .int x), (0, .ref (al (10, 0, 0)))]) hx hb dX7_know_115 rfl hl (by decide) rfl (fun ls hl => ?_)
            refine lv_iinc (v := nI (i + 1)) (lv' := [(4, .int (nI (i + 1))), (3, .int (nI (y + 0))), (5, .int (nI 0)), (2, .int (nI b)), (1, .int x), (0, .ref (al (10, 0, 0)))]) hx hb dX7_know_116 hl (k := 2) rfl (nI_1 _) (by decide) rfl (fun ls hl => ?_)
            refine lv_goto (tgt := 26) hx hb dX7_know_119 (by decide) ?_
            exact ih26 (by omega) (y + 0) _ _ _ (by rw [hy]; show _ = mct (kc sg rc x b) (sets sg) i + (if (kc sg rc x b i && _) = true then 1 else 0); rw [show kc sg rc x b i = false by unfold kc cov; simp [c_3]]; rfl) (by rw [show (mrw (kc sg rc x b) (sets sg) i) = (mrw (kc sg rc x b) (sets sg) (i + 1)) from (if_neg (by rw [show kc sg rc x b i = false by unfold kc cov; simp [c_3]]; decide)).symm] at hH; exact hH) hS (lv_sub hl [0, 1, 3, 4, 5] rfl)
          · skip
            replace c_3 := ob_0.mp c_3
            refine lv_iload_n hx hb dX7_know_45 rfl (lv_at hl 3 rfl) ?_
            refine lv_aload_n hx hb dX7_know_46 rfl (lv_at hl 4 rfl) ?_
            refine x_get C hH (ci := 8) (T := TX7) (N := 19) hM rfl iWX7 11 (by decide) qw_707 rfl rfl dX7_know_47 ?_
            refine lv_iload hx hb dX7_know_50 (lv_at hl 0 rfl) ?_
            refine x_iald C hH mm11 (j := i) rfl (by omega) (by omega) dX7_know_52 ?_
            refine lv_ishr hx hb dX7_know_53 ?_
            refine lv_iconst (v := nI 1) hx hb dX7_know_54 (by decide +kernel) ?_
            refine lv_iand hx hb dX7_know_55 ?_
            refine lv_re (y := ob (wb x (sg 7 i 0))) (wb_eq (vA i (by omega)).1 v6) ?_
            refine lv_iconst (v := nI 1) hx hb dX7_know_56 (by decide +kernel) ?_
            refine lv_icmp_ne (tgt := 86) hx hb dX7_know_57 (by decide) (fun c_5 => ?_) (fun c_5 => ?_)
            · skip
              replace c_5 := ob_n1.mp c_5
              refine lv_iconst (v := nI 0) hx hb dX7_know_86 (by decide +kernel) ?_
              refine lv_istore (lv' := [(5, .int (nI 0)), (4, .int (nI i)), (3, .int (nI y)), (2, .int (nI b)), (1, .int x), (0, .ref (al (10, 0, 0)))]) hx hb dX7_know_87 hl (by decide) rfl (fun ls hl => ?_)
              refine lv_iload_n hx hb dX7_know_89 rfl (lv_at hl 2 rfl) ?_
              refine lv_iload hx hb dX7_know_90 (lv_at hl 0 rfl) ?_
              refine lv_if_eq (tgt := 113) hx hb dX7_know_92 (by decide) (fun c_6 => ?_) (fun c_6 => absurd (by decide +kernel) c_6)
              clear c_6
              refine lv_iconst (v := nI 0) hx hb dX7_know_113 (by decide +kernel) ?_
              refine lv_iadd hx hb dX7_know_114 ?_
              refine lv_re (nI_add _ _) ?_
              refine lv_istore_n (lv' := [(3, .int (nI (y + 0))), (5, .int (nI 0)), (4, .int (nI i)), (2, .int (nI b)), (1, .int x), (0, .ref (al (10, 0, 0)))]) hx hb dX7_know_115 rfl hl (by decide) rfl (fun ls hl => ?_)
              refine lv_iinc (v := nI (i + 1)) (lv' := [(4, .int (nI (i + 1))), (3, .int (nI (y + 0))), (5, .int (nI 0)), (2, .int (nI b)), (1, .int x), (0, .ref (al (10, 0, 0)))]) hx hb dX7_know_116 hl (k := 2) rfl (nI_1 _) (by decide) rfl (fun ls hl => ?_)
              refine lv_goto (tgt := 26) hx hb dX7_know_119 (by decide) ?_
              exact ih26 (by omega) (y + 0) _ _ _ (by rw [hy]; show _ = mct (kc sg rc x b) (sets sg) i + (if (kc sg rc x b i && _) = true then 1 else 0); rw [show kc sg rc x b i = false by unfold kc cov; simp [c_3, c_5]]; rfl) (by rw [show (mrw (kc sg rc x b) (sets sg) i) = (mrw (kc sg rc x b) (sets sg) (i + 1)) from (if_neg (by rw [show kc sg rc x b i = false by unfold kc cov; simp [c_3, c_5]]; decide)).symm] at hH; exact hH) hS (lv_sub hl [0, 1, 3, 4, 5] rfl)
            · skip
              replace c_5 := ob_1.mp c_5
              refine lv_aload_n hx hb dX7_know_60 rfl (lv_at hl 4 rfl) ?_
              refine x_get C hH (ci := 8) (T := TX7) (N := 19) hM rfl iWX7 13 (by decide) qw_709 rfl rfl dX7_know_61 ?_
              refine lv_iload hx hb dX7_know_64 (lv_at hl 0 rfl) ?_
              refine x_iald C hH mm13 (j := i) rfl (by omega) (by omega) dX7_know_66 ?_
              refine lv_iconst (v := (-1)) hx hb dX7_know_67 (by decide +kernel) ?_
              refine lv_icmp_eq (tgt := 82) hx hb dX7_know_68 (by decide) (fun c_7 => ?_) (fun c_7 => ?_)
              · skip
                refine lv_iconst (v := nI 1) hx hb dX7_know_82 (by decide +kernel) ?_
                refine lv_goto (tgt := 87) hx hb dX7_know_83 (by decide) ?_
                refine lv_istore (lv' := [(5, .int (nI 1)), (4, .int (nI i)), (3, .int (nI y)), (2, .int (nI b)), (1, .int x), (0, .ref (al (10, 0, 0)))]) hx hb dX7_know_87 hl (by decide) rfl (fun ls hl => ?_)
                refine lv_iload_n hx hb dX7_know_89 rfl (lv_at hl 2 rfl) ?_
                refine lv_iload hx hb dX7_know_90 (lv_at hl 0 rfl) ?_
                refine lv_if_eq (tgt := 113) hx hb dX7_know_92 (by decide) (fun c_8 => absurd c_8 (by decide +kernel)) (fun c_8 => ?_)
                clear c_8
                refine lv_aload_n hx hb dX7_know_95 rfl (lv_at hl 5 rfl) ?_
                refine lv_aload_n hx hb dX7_know_96 rfl (lv_at hl 5 rfl) ?_
                refine x_get C hH (ci := 8) (T := TX7) (N := 19) hM rfl iWX7 12 (by decide) qw_708 rfl rfl dX7_know_97 ?_
                refine lv_iload hx hb dX7_know_100 (lv_at hl 1 rfl) ?_
                refine x_iald C hH mm12 (j := i) rfl (by omega) (by omega) dX7_know_102 ?_
                refine x_callV C hH hS (ci := 8) (t := (10, 0, 0)) hM rfl rfl (m_learn l (E := E) (base := base) hMM1 (x := sg 8 i 0) (red_sml (mrw_ok i (fun a ha _ => h16 a (by omega))).1 (h16 i (by omega)) 16 (Nat.le_refl _))) hH kX7_learn qw_839 (ws_p (List.mem_of_getElem? (i := 28) rfl) rfl) qw_837  rfl [.int (nI y)] rfl hl.1 (Nat.le_of_ble_eq_true rfl) ⟨Nat.le_of_ble_eq_true rfl, Nat.le_of_ble_eq_true rfl⟩ dX7_know_103 ⟨Nat.le_of_ble_eq_true rfl, Nat.le_of_ble_eq_true rfl⟩ (fun r_10 H locs hp_9 hS => ?_)
                have hkc : kc sg rc x b i = true := by unfold kc cov; simp [c_3, c_5, c_7]
                obtain ⟨rfl, hH⟩ := hp_9
                rw [xu_uu, show mlF (mrw (kc sg rc x b) (sets sg) i) (sg 8 i 0) = (mrw (kc sg rc x b) (sets sg) (i + 1)) from (if_pos hkc).symm] at hH
                refine lv_if_eq (tgt := 113) hx hb dX7_know_106 (by decide) (fun c_11 => ?_) (fun c_11 => ?_)
                · skip
                  replace c_11 := ob_0.mp c_11
                  refine lv_iconst (v := nI 0) hx hb dX7_know_113 (by decide +kernel) ?_
                  refine lv_iadd hx hb dX7_know_114 ?_
                  refine lv_re (nI_add _ _) ?_
                  refine lv_istore_n (lv' := [(3, .int (nI (y + 0))), (5, .int (nI 1)), (4, .int (nI i)), (2, .int (nI b)), (1, .int x), (0, .ref (al (10, 0, 0)))]) hx hb dX7_know_115 rfl hl (by decide) rfl (fun ls hl => ?_)
                  refine lv_iinc (v := nI (i + 1)) (lv' := [(4, .int (nI (i + 1))), (3, .int (nI (y + 0))), (5, .int (nI 1)), (2, .int (nI b)), (1, .int x), (0, .ref (al (10, 0, 0)))]) hx hb dX7_know_116 hl (k := 2) rfl (nI_1 _) (by decide) rfl (fun ls hl => ?_)
                  refine lv_goto (tgt := 26) hx hb dX7_know_119 (by decide) ?_
                  exact ih26 (by omega) (y + 0) _ _ _ (by rw [hy]; show _ = mct (kc sg rc x b) (sets sg) i + (if (kc sg rc x b i && !decide (red (mrw (kc sg rc x b) (sets sg) i) 16 (sg 8 i 0) = 0)) = true then 1 else 0); rw [hkc, Bool.true_and, c_11]; rfl) hH hS (lv_sub hl [0, 1, 3, 4, 5] rfl)
                · skip
                  replace c_11 := ob_n.mp c_11
                  refine lv_iconst (v := nI 1) hx hb dX7_know_109 (by decide +kernel) ?_
                  refine lv_goto (tgt := 114) hx hb dX7_know_110 (by decide) ?_
                  refine lv_iadd hx hb dX7_know_114 ?_
                  refine lv_re (nI_add _ _) ?_
                  refine lv_istore_n (lv' := [(3, .int (nI (y + 1))), (5, .int (nI 1)), (4, .int (nI i)), (2, .int (nI b)), (1, .int x), (0, .ref (al (10, 0, 0)))]) hx hb dX7_know_115 rfl hl (by decide) rfl (fun ls hl => ?_)
                  refine lv_iinc (v := nI (i + 1)) (lv' := [(4, .int (nI (i + 1))), (3, .int (nI (y + 1))), (5, .int (nI 1)), (2, .int (nI b)), (1, .int x), (0, .ref (al (10, 0, 0)))]) hx hb dX7_know_116 hl (k := 2) rfl (nI_1 _) (by decide) rfl (fun ls hl => ?_)
                  refine lv_goto (tgt := 26) hx hb dX7_know_119 (by decide) ?_
                  exact ih26 (by omega) (y + 1) _ _ _ (by rw [hy]; show _ = mct (kc sg rc x b) (sets sg) i + (if (kc sg rc x b i && !decide (red (mrw (kc sg rc x b) (sets sg) i) 16 (sg 8 i 0) = 0)) = true then 1 else 0); rw [hkc, Bool.true_and, c_11]; rfl) hH hS (lv_sub hl [0, 1, 3, 4, 5] rfl)
              · skip
                refine lv_aload_n hx hb dX7_know_71 rfl (lv_at hl 4 rfl) ?_
                refine x_get C hH (ci := 8) (T := TX7) (N := 19) hM rfl iWX7 13 (by decide) qw_709 rfl rfl dX7_know_72 ?_
                refine lv_iload hx hb dX7_know_75 (lv_at hl 0 rfl) ?_
                refine x_iald C hH mm13 (j := i) rfl (by omega) (by omega) dX7_know_77 ?_
                refine lv_iload_n hx hb dX7_know_78 rfl (lv_at hl 2 rfl) ?_
                refine lv_icmp_ne (tgt := 86) hx hb dX7_know_79 (by decide) (fun c_12 => ?_) (fun c_12 => ?_)
                · skip
                  refine lv_iconst (v := nI 0) hx hb dX7_know_86 (by decide +kernel) ?_
                  refine lv_istore (lv' := [(5, .int (nI 0)), (4, .int (nI i)), (3, .int (nI y)), (2, .int (nI b)), (1, .int x), (0, .ref (al (10, 0, 0)))]) hx hb dX7_know_87 hl (by decide) rfl (fun ls hl => ?_)
                  refine lv_iload_n hx hb dX7_know_89 rfl (lv_at hl 2 rfl) ?_
                  refine lv_iload hx hb dX7_know_90 (lv_at hl 0 rfl) ?_
                  refine lv_if_eq (tgt := 113) hx hb dX7_know_92 (by decide) (fun c_13 => ?_) (fun c_13 => absurd (by decide +kernel) c_13)
                  clear c_13
                  refine lv_iconst (v := nI 0) hx hb dX7_know_113 (by decide +kernel) ?_
                  refine lv_iadd hx hb dX7_know_114 ?_
                  refine lv_re (nI_add _ _) ?_
                  refine lv_istore_n (lv' := [(3, .int (nI (y + 0))), (5, .int (nI 0)), (4, .int (nI i)), (2, .int (nI b)), (1, .int x), (0, .ref (al (10, 0, 0)))]) hx hb dX7_know_115 rfl hl (by decide) rfl (fun ls hl => ?_)
                  refine lv_iinc (v := nI (i + 1)) (lv' := [(4, .int (nI (i + 1))), (3, .int (nI (y + 0))), (5, .int (nI 0)), (2, .int (nI b)), (1, .int x), (0, .ref (al (10, 0, 0)))]) hx hb dX7_know_116 hl (k := 2) rfl (nI_1 _) (by decide) rfl (fun ls hl => ?_)
                  refine lv_goto (tgt := 26) hx hb dX7_know_119 (by decide) ?_
                  exact ih26 (by omega) (y + 0) _ _ _ (by rw [hy]; show _ = mct (kc sg rc x b) (sets sg) i + (if (kc sg rc x b i && _) = true then 1 else 0); rw [show kc sg rc x b i = false by unfold kc cov; simp [c_3, c_5, c_7, c_12]]; rfl) (by rw [show (mrw (kc sg rc x b) (sets sg) i) = (mrw (kc sg rc x b) (sets sg) (i + 1)) from (if_neg (by rw [show kc sg rc x b i = false by unfold kc cov; simp [c_3, c_5, c_7, c_12]]; decide)).symm] at hH; exact hH) hS (lv_sub hl [0, 1, 3, 4, 5] rfl)
                · skip
                  refine lv_iconst (v := nI 1) hx hb dX7_know_82 (by decide +kernel) ?_
                  refine lv_goto (tgt := 87) hx hb dX7_know_83 (by decide) ?_
                  refine lv_istore (lv' := [(5, .int (nI 1)), (4, .int (nI i)), (3, .int (nI y)), (2, .int (nI b)), (1, .int x), (0, .ref (al (10, 0, 0)))]) hx hb dX7_know_87 hl (by decide) rfl (fun ls hl => ?_)
                  refine lv_iload_n hx hb dX7_know_89 rfl (lv_at hl 2 rfl) ?_
                  refine lv_iload hx hb dX7_know_90 (lv_at hl 0 rfl) ?_
                  refine lv_if_eq (tgt := 113) hx hb dX7_know_92 (by decide) (fun c_14 => absurd c_14 (by decide +kernel)) (fun c_14 => ?_)
                  clear c_14
                  refine lv_aload_n hx hb dX7_know_95 rfl (lv_at hl 5 rfl) ?_
                  refine lv_aload_n hx hb dX7_know_96 rfl (lv_at hl 5 rfl) ?_
                  refine x_get C hH (ci := 8) (T := TX7) (N := 19) hM rfl iWX7 12 (by decide) qw_708 rfl rfl dX7_know_97 ?_
                  refine lv_iload hx hb dX7_know_100 (lv_at hl 1 rfl) ?_
                  refine x_iald C hH mm12 (j := i) rfl (by omega) (by omega) dX7_know_102 ?_
                  refine x_callV C hH hS (ci := 8) (t := (10, 0, 0)) hM rfl rfl (m_learn l (E := E) (base := base) hMM1 (x := sg 8 i 0) (red_sml (mrw_ok i (fun a ha _ => h16 a (by omega))).1 (h16 i (by omega)) 16 (Nat.le_refl _))) hH kX7_learn qw_839 (ws_p (List.mem_of_getElem? (i := 28) rfl) rfl) qw_837  rfl [.int (nI y)] rfl hl.1 (Nat.le_of_ble_eq_true rfl) ⟨Nat.le_of_ble_eq_true rfl, Nat.le_of_ble_eq_true rfl⟩ dX7_know_103 ⟨Nat.le_of_ble_eq_true rfl, Nat.le_of_ble_eq_true rfl⟩ (fun r_16 H locs hp_15 hS => ?_)
                  have hkc : kc sg rc x b i = true := by unfold kc cov; simp [c_3, c_5, c_7, c_12]
                  obtain ⟨rfl, hH⟩ := hp_15
                  rw [xu_uu, show mlF (mrw (kc sg rc x b) (sets sg) i) (sg 8 i 0) = (mrw (kc sg rc x b) (sets sg) (i + 1)) from (if_pos hkc).symm] at hH
                  refine lv_if_eq (tgt := 113) hx hb dX7_know_106 (by decide) (fun c_17 => ?_) (fun c_17 => ?_)
                  · skip
                    replace c_17 := ob_0.mp c_17
                    refine lv_iconst (v := nI 0) hx hb dX7_know_113 (by decide +kernel) ?_
                    refine lv_iadd hx hb dX7_know_114 ?_
                    refine lv_re (nI_add _ _) ?_
                    refine lv_istore_n (lv' := [(3, .int (nI (y + 0))), (5, .int (nI 1)), (4, .int (nI i)), (2, .int (nI b)), (1, .int x), (0, .ref (al (10, 0, 0)))]) hx hb dX7_know_115 rfl hl (by decide) rfl (fun ls hl => ?_)
                    refine lv_iinc (v := nI (i + 1)) (lv' := [(4, .int (nI (i + 1))), (3, .int (nI (y + 0))), (5, .int (nI 1)), (2, .int (nI b)), (1, .int x), (0, .ref (al (10, 0, 0)))]) hx hb dX7_know_116 hl (k := 2) rfl (nI_1 _) (by decide) rfl (fun ls hl => ?_)
                    refine lv_goto (tgt := 26) hx hb dX7_know_119 (by decide) ?_
                    exact ih26 (by omega) (y + 0) _ _ _ (by rw [hy]; show _ = mct (kc sg rc x b) (sets sg) i + (if (kc sg rc x b i && !decide (red (mrw (kc sg rc x b) (sets sg) i) 16 (sg 8 i 0) = 0)) = true then 1 else 0); rw [hkc, Bool.true_and, c_17]; rfl) hH hS (lv_sub hl [0, 1, 3, 4, 5] rfl)
                  · skip
                    replace c_17 := ob_n.mp c_17
                    refine lv_iconst (v := nI 1) hx hb dX7_know_109 (by decide +kernel) ?_
                    refine lv_goto (tgt := 114) hx hb dX7_know_110 (by decide) ?_
                    refine lv_iadd hx hb dX7_know_114 ?_
                    refine lv_re (nI_add _ _) ?_
                    refine lv_istore_n (lv' := [(3, .int (nI (y + 1))), (5, .int (nI 1)), (4, .int (nI i)), (2, .int (nI b)), (1, .int x), (0, .ref (al (10, 0, 0)))]) hx hb dX7_know_115 rfl hl (by decide) rfl (fun ls hl => ?_)
                    refine lv_iinc (v := nI (i + 1)) (lv' := [(4, .int (nI (i + 1))), (3, .int (nI (y + 1))), (5, .int (nI 1)), (2, .int (nI b)), (1, .int x), (0, .ref (al (10, 0, 0)))]) hx hb dX7_know_116 hl (k := 2) rfl (nI_1 _) (by decide) rfl (fun ls hl => ?_)
                    refine lv_goto (tgt := 26) hx hb dX7_know_119 (by decide) ?_
                    exact ih26 (by omega) (y + 1) _ _ _ (by rw [hy]; show _ = mct (kc sg rc x b) (sets sg) i + (if (kc sg rc x b i && !decide (red (mrw (kc sg rc x b) (sets sg) i) 16 (sg 8 i 0) = 0)) = true then 1 else 0); rw [hkc, Bool.true_and, c_17]; rfl) hH hS (lv_sub hl [0, 1, 3, 4, 5] rfl)
      exact lp26 0 (Nat.zero_le _) 0 _ _ _ rfl hH hS (lv_sub hl [0, 1, 2, 3, 4] rfl)
    · skip
      replace c_1 := mt (nI_leI (by omega) (by omega)).mpr c_1
      refine lv_aload_n hx hb dX7_know_8 rfl (lv_at hl 3 rfl) ?_
      refine x_get C hH (ci := 8) (T := TX7) (N := 19) hM rfl iWX7 18 (by decide) qw_714 rfl rfl dX7_know_9 ?_
      refine lv_iload_n hx hb dX7_know_12 rfl (lv_at hl 0 rfl) ?_
      refine lv_iconst (v := nI 0) hx hb dX7_know_13 (by decide +kernel) ?_
      refine x_iast C hH hS mm18 (j := i) rfl (by omega) (by omega) dX7_know_14 (fun H locs hH hS => ?_)
      have hM := xu_of (t := (10, 18, 0)) (e := .inl (E.2.1 0, 16, .inl (upd (fz fr i) i (nI 0)))) (by simp) hM
      have mm3 := xu_of (t := (10, 18, 0)) (e := .inl (E.2.1 0, 16, .inl (upd (fz fr i) i (nI 0)))) (by simp) mm3
      have mm4 := xu_of (t := (10, 18, 0)) (e := .inl (E.2.1 0, 16, .inl (upd (fz fr i) i (nI 0)))) (by simp) mm4
      have mm6 := xu_of (t := (10, 18, 0)) (e := .inl (E.2.1 0, 16, .inl (upd (fz fr i) i (nI 0)))) (by simp) mm6
      have mm7 := xu_of (t := (10, 18, 0)) (e := .inl (E.2.1 0, 16, .inl (upd (fz fr i) i (nI 0)))) (by simp) mm7
      have mm8 := xu_of (t := (10, 18, 0)) (e := .inl (E.2.1 0, 16, .inl (upd (fz fr i) i (nI 0)))) (by simp) mm8
      have mm9 := xu_of (t := (10, 18, 0)) (e := .inl (E.2.1 0, 16, .inl (upd (fz fr i) i (nI 0)))) (by simp) mm9
      have mm11 := xu_of (t := (10, 18, 0)) (e := .inl (E.2.1 0, 16, .inl (upd (fz fr i) i (nI 0)))) (by simp) mm11
      have mm12 := xu_of (t := (10, 18, 0)) (e := .inl (E.2.1 0, 16, .inl (upd (fz fr i) i (nI 0)))) (by simp) mm12
      have mm13 := xu_of (t := (10, 18, 0)) (e := .inl (E.2.1 0, 16, .inl (upd (fz fr i) i (nI 0)))) (by simp) mm13
      have mm14 := xu_of (t := (10, 18, 0)) (e := .inl (E.2.1 0, 16, .inl (upd (fz fr i) i (nI 0)))) (by simp) mm14
      have mm15 := xu_of (t := (10, 18, 0)) (e := .inl (E.2.1 0, 16, .inl (upd (fz fr i) i (nI 0)))) (by simp) mm15
      have mm16 := xu_of (t := (10, 18, 0)) (e := .inl (E.2.1 0, 16, .inl (upd (fz fr i) i (nI 0)))) (by simp) mm16
      have mm17 := xu_of (t := (10, 18, 0)) (e := .inl (E.2.1 0, 16, .inl (upd (fz fr i) i (nI 0)))) (by simp) mm17
      have mm18 : (xu (xu w (10, 18, 0) (.inl (E.2.1 0, 16, .inl (fz fr i)))) (10, 18, 0) (.inl (E.2.1 0, 16, .inl (upd (fz fr i) i (nI 0))))) (10, 18, 0) = some (.inl (E.2.1 0, 16, .inl (upd (fz fr i) i (nI 0)))) := xu_self _ _ _
      refine lv_iinc (v := nI (i + 1)) (lv' := [(3, .int (nI (i + 1))), (2, .int (nI b)), (1, .int x), (0, .ref (al (10, 0, 0)))]) hx hb dX7_know_15 hl (k := 0) rfl (nI_1 _) (by decide) rfl (fun ls hl => ?_)
      refine lv_goto (tgt := 2) hx hb dX7_know_18 (by decide) ?_
      exact ih2 (by omega)  _ _ _  (by rw [xu_uu, fz_s] at hH; exact hH) hS (lv_sub hl [0, 1, 2, 3] rfl)
  exact lp2 0 (Nat.zero_le _)  _ _ _  (by rw [fz_0, xu_same mm18]; exact hH) hS (lv_sub hl [0, 3, 2, 1] rfl)
