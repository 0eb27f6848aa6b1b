set_option maxHeartbeats 4000000 in
set_option maxRecDepth 100000 in
theorem m_wouldTell0 (l : Launch) {E : xE} {base : Nat} {al : Tg → Nat} {w : Tg → Option va_E} {th : Int32} {nf np na nw : Nat} {sg : Nat → Nat → Nat → Int32} {rc : Nat → Bool} {fr : Nat → Int32} (hMM : MMf E al w th nf np na nw sg rc fr) (hI : INV nf np na nw sg rc) {p : Nat} {x bit : Int32} (hp : p < np) (hxs : sml nf x) : xMet l yX7_wouldTell cX7_wouldTell 9 (some (.boolean)) ({ frames := 3, cells := 0, slots := 0, locals := 70 } : Room) E base [.ref (al (10, 0, 0)), .int (nI p), .int x, .int bit] (fun H => xH E base al w H) (fun r H => r = some (.int (ob (anyB (fun b => cov bit b && anyB (fun f => bt ((fBs (fun f => decide (red (mlF (mrw (kc sg rc (nI 1 <<< (nI p &&& 31)) b) (sets sg) na) x) 16 (nI 1 <<< (nI f &&& 31)) = 0)) nf) &&& ((fBs (fun f => decide (red (mrw (kc sg rc (nI 1 <<< (nI p &&& 31)) b) (sets sg) na) 16 (nI 1 <<< (nI f &&& 31)) = 0)) nf) ^^^ (-1))) f && !decide (rIn (sg 4 p f) (sg 5 p f) (sg 6 p f) (nI nw) = nI 2)) nf) 8))) ∧ ∃ fr9 : Nat → Int32, xH E base al (xu w (10, 18, 0) (.inl (E.2.1 0, 16, .inl fr9))) H) := by
  refine xMet.of (by decide +kernel) "DataroomModel" rfl (Nat.le_of_ble_eq_true rfl) ?_
  intro p9 e9 s m9 below meth c9 ls C hin hP hS hl
  have hx := C.hx
  have hb := C.hb
  have hH := hP
  have hl : lv_has ls 9 [(0, .ref (al (10, 0, 0))), (1, .int (nI p)), (2, .int x), (3, .int bit)] := hl
  obtain ⟨post, hpost⟩ : ∃ zz9 : Option Value → Heap → Prop, zz9 = (fun r H => r = some (.int (ob (anyB (fun b => cov bit b && anyB (fun f => bt ((fBs (fun f => decide (red (mlF (mrw (kc sg rc (nI 1 <<< (nI p &&& 31)) b) (sets sg) na) x) 16 (nI 1 <<< (nI f &&& 31)) = 0)) nf) &&& ((fBs (fun f => decide (red (mrw (kc sg rc (nI 1 <<< (nI p &&& 31)) b) (sets sg) na) 16 (nI 1 <<< (nI f &&& 31)) = 0)) nf) ^^^ (-1))) f && !decide (rIn (sg 4 p f) (sg 5 p f) (sg 6 p f) (nI nw) = nI 2)) nf) 8))) ∧ ∃ fr9 : Nat → Int32, xH E base al (xu w (10, 18, 0) (.inl (E.2.1 0, 16, .inl fr9))) H) := ⟨_, rfl⟩
  rw [← hpost]
  generalize hQ : (MQ below (xQ base post) ([.ref (al (10, 0, 0)), .int (nI p), .int x, .int bit] : List Value).toArray s 0 0 (xA base)) = Q
  have hMM0 := hMM
  obtain ⟨hM, mm3, mm4, mm6, mm7, mm8, mm9, mm11, mm12, mm13, mm14, mm15, mm16, mm17, mm18⟩ := hMM
  have hI0 := hI
  obtain ⟨v16, v6, v150, vnow, vA, vS, vP, vK, vR⟩ := hI
  refine lv_iconst (v := nI 0) hx hb dX7_wouldTell_0 (by decide +kernel) ?_
  refine lv_istore (lv' := [(4, .int (nI 0)), (0, .ref (al (10, 0, 0))), (1, .int (nI p)), (2, .int x), (3, .int bit)]) hx hb dX7_wouldTell_1 hl (by decide) rfl (fun ls hl => ?_)
  refine lv_iconst (v := nI 0) hx hb dX7_wouldTell_3 (by decide +kernel) ?_
  refine lv_istore (lv' := [(5, .int (nI 0)), (4, .int (nI 0)), (0, .ref (al (10, 0, 0))), (1, .int (nI p)), (2, .int x), (3, .int bit)]) hx hb dX7_wouldTell_4 hl (by decide) rfl (fun ls hl => ?_)
  have lp6 : ∀ (i : Nat), i ≤ 8 → ∀ (hd : Bool) (fr9 : Nat → Int32) (H : Heap) (locs : List Loc) (ls : Array Slot), hd = anyB (fun b => cov bit b && anyB (fun f => bt ((fBs (fun f => decide (red (mlF (mrw (kc sg rc (nI 1 <<< (nI p &&& 31)) b) (sets sg) na) x) 16 (nI 1 <<< (nI f &&& 31)) = 0)) nf) &&& ((fBs (fun f => decide (red (mrw (kc sg rc (nI 1 <<< (nI p &&& 31)) b) (sets sg) na) 16 (nI 1 <<< (nI f &&& 31)) = 0)) nf) ^^^ (-1))) f && !decide (rIn (sg 4 p f) (sg 5 p f) (sg 6 p f) (nI nw) = nI 2)) nf) i → xH E base al (xu w (10, 18, 0) (.inl (E.2.1 0, 16, .inl fr9))) H → va_S (xA base) s.heap H locs → lv_has ls 9 [(5, .int (nI i)), (4, .int (ob hd)), (3, .int bit), (2, .int x), (1, .int (nI p)), (0, .ref (al (10, 0, 0)))] → W p9 l e9 ({ frames := 3, cells := 0, slots := 0, locals := 70 } : Room) s m9 ([.ref (al (10, 0, 0)), .int (nI p), .int x, .int bit] : List Value).toArray below meth c9 H locs 0 0 Q (F0 m9 6 ls []) := by
    refine lp_up ?_
    intro i hii ih6 hd fr9 H locs ls hy hH hS hl
    have hMM1 := hMM0.fr fr9
    have hMMx := hMM1
    obtain ⟨hM, mm3, mm4, mm6, mm7, mm8, mm9, mm11, mm12, mm13, mm14, mm15, mm16, mm17, mm18⟩ := hMMx
    refine lv_iload hx hb dX7_wouldTell_6 (lv_at hl 0 rfl) ?_
    refine lv_bipush (v := nI 8) hx hb dX7_wouldTell_8 (by decide +kernel) ?_
    refine lv_icmp_ge (tgt := 113) hx hb dX7_wouldTell_10 (by decide) (fun c_1 => ?_) (fun c_1 => ?_)
    · skip
      replace c_1 := (nI_leI (by omega) (by omega)).mp c_1
      refine lv_iload hx hb dX7_wouldTell_113 (lv_at hl 1 rfl) ?_
      rw [← hQ]
      refine x_reti C ob_nar hS (Nat.le_of_ble_eq_true rfl) (Nat.le_of_ble_eq_true rfl) dX7_wouldTell_115 ?_
      rw [hpost]
      have e8 : i = 8 := by omega
      subst e8
      exact ⟨by rw [hy], fr9, hH⟩
    · skip
      replace c_1 := mt (nI_leI (by omega) (by omega)).mpr c_1
      refine lv_iload_n hx hb dX7_wouldTell_13 rfl (lv_at hl 2 rfl) ?_
      refine lv_iload hx hb dX7_wouldTell_14 (lv_at hl 0 rfl) ?_
      refine x_callS C hS (m_isAsked l (E := E) (base := base) (al := al) (w := (xu w (10, 18, 0) (.inl (E.2.1 0, 16, .inl fr9)))) (x := bit) (k := i)) hH kX7_isAsked qw_831 qw_830  rfl [] rfl hl.1 (Nat.le_of_ble_eq_true rfl) ⟨Nat.le_of_ble_eq_true rfl, Nat.le_of_ble_eq_true rfl⟩ dX7_wouldTell_16 ⟨Nat.le_of_ble_eq_true rfl, Nat.le_of_ble_eq_true rfl⟩ (fun r_3 H locs hp_2 hS => ?_)
      obtain ⟨rfl, hH⟩ := hp_2
      refine lv_if_eq (tgt := 107) hx hb dX7_wouldTell_19 (by decide) (fun c_4 => ?_) (fun c_4 => ?_)
      · skip
        replace c_4 := ob_0.mp c_4
        refine lv_iinc (v := nI (i + 1)) (lv' := [(5, .int (nI (i + 1))), (4, .int (ob hd)), (3, .int bit), (2, .int x), (1, .int (nI p)), (0, .ref (al (10, 0, 0)))]) hx hb dX7_wouldTell_107 hl (k := 0) rfl (nI_1 _) (by decide) rfl (fun ls hl => ?_)
        refine lv_goto (tgt := 6) hx hb dX7_wouldTell_110 (by decide) ?_
        exact ih6 (by omega) hd _ _ _ _ (by rw [hy]; show _ = (_ || (cov bit i && _)); rw [c_4]; simp) hH hS (lv_sub hl [0, 1, 2, 3, 4, 5] rfl)
      · skip
        replace c_4 := ob_n.mp c_4
        refine lv_aload_n hx hb dX7_wouldTell_22 rfl (lv_at hl 5 rfl) ?_
        refine lv_iconst (v := nI 1) hx hb dX7_wouldTell_23 (by decide +kernel) ?_
        refine lv_iload_n hx hb dX7_wouldTell_24 rfl (lv_at hl 4 rfl) ?_
        refine lv_ishl hx hb dX7_wouldTell_25 ?_
        refine lv_iload hx hb dX7_wouldTell_26 (lv_at hl 0 rfl) ?_
        refine x_callV C hH hS (ci := 8) (t := (10, 0, 0)) hM rfl rfl (m_know l (E := E) (base := base) hMM1 hI0 (x := (nI 1 <<< (nI p &&& 31))) (b := i) (by omega)) hH kX7_know qw_835 (ws_p (List.mem_of_getElem? (i := 27) rfl) rfl) qw_833  rfl [] rfl hl.1 (Nat.le_of_ble_eq_true rfl) ⟨Nat.le_of_ble_eq_true rfl, Nat.le_of_ble_eq_true rfl⟩ dX7_wouldTell_28 ⟨Nat.le_of_ble_eq_true rfl, Nat.le_of_ble_eq_true rfl⟩ (fun r_6 H locs hp_5 hS => ?_)
        obtain ⟨rfl, hH⟩ := hp_5
        rw [xu_uu] at hH
        have hMM2 := hMM0.fr (mrw (kc sg rc (nI 1 <<< (nI p &&& 31)) i) (sets sg) na)
        have hMMx := hMM2
        obtain ⟨hM, mm3, mm4, mm6, mm7, mm8, mm9, mm11, mm12, mm13, mm14, mm15, mm16, mm17, mm18⟩ := hMMx
        refine lv_pop hx hb dX7_wouldTell_31 rfl ?_
        refine lv_aload_n hx hb dX7_wouldTell_32 rfl (lv_at hl 5 rfl) ?_
        refine x_callV C hH hS (ci := 8) (t := (10, 0, 0)) hM rfl rfl (m_found l (E := E) (base := base) hMM2 v16) hH kX7_found qw_850 (ws_p (List.mem_of_getElem? (i := 30) rfl) rfl) qw_848  rfl [] rfl hl.1 (Nat.le_of_ble_eq_true rfl) ⟨Nat.le_of_ble_eq_true rfl, Nat.le_of_ble_eq_true rfl⟩ dX7_wouldTell_33 ⟨Nat.le_of_ble_eq_true rfl, Nat.le_of_ble_eq_true rfl⟩ (fun r_8 H locs hp_7 hS => ?_)
        obtain ⟨rfl, hH⟩ := hp_7
        refine lv_istore (lv' := [(6, .int (fBs (fun f => decide (red (mrw (kc sg rc (nI 1 <<< (nI p &&& 31)) i) (sets sg) na) 16 (nI 1 <<< (nI f &&& 31)) = 0)) nf)), (5, .int (nI i)), (4, .int (ob hd)), (3, .int bit), (2, .int x), (1, .int (nI p)), (0, .ref (al (10, 0, 0)))]) hx hb dX7_wouldTell_36 hl (by decide) rfl (fun ls hl => ?_)
        refine lv_aload_n hx hb dX7_wouldTell_38 rfl (lv_at hl 6 rfl) ?_
        refine lv_iload_n hx hb dX7_wouldTell_39 rfl (lv_at hl 4 rfl) ?_
        refine x_callV C hH hS (ci := 8) (t := (10, 0, 0)) hM rfl rfl (m_learn l (E := E) (base := base) hMM2 (x := x) (red_sml (mrw_ok na (fun a ha _ => sml_16 hI0 a ha)).1 (fun j hj => hxs j (by omega)) 16 (Nat.le_refl _))) hH kX7_learn qw_839 (ws_p (List.mem_of_getElem? (i := 28) rfl) rfl) qw_837  rfl [] rfl hl.1 (Nat.le_of_ble_eq_true rfl) ⟨Nat.le_of_ble_eq_true rfl, Nat.le_of_ble_eq_true rfl⟩ dX7_wouldTell_40 ⟨Nat.le_of_ble_eq_true rfl, Nat.le_of_ble_eq_true rfl⟩ (fun r_10 H locs hp_9 hS => ?_)
        obtain ⟨rfl, hH⟩ := hp_9
        rw [xu_uu] at hH
        have hMM3 := hMM0.fr (mlF (mrw (kc sg rc (nI 1 <<< (nI p &&& 31)) i) (sets sg) na) x)
        have hMMx := hMM3
        obtain ⟨hM, mm3, mm4, mm6, mm7, mm8, mm9, mm11, mm12, mm13, mm14, mm15, mm16, mm17, mm18⟩ := hMMx
        refine lv_pop hx hb dX7_wouldTell_43 rfl ?_
        refine lv_aload_n hx hb dX7_wouldTell_44 rfl (lv_at hl 6 rfl) ?_
        refine x_callV C hH hS (ci := 8) (t := (10, 0, 0)) hM rfl rfl (m_found l (E := E) (base := base) hMM3 v16) hH kX7_found qw_850 (ws_p (List.mem_of_getElem? (i := 30) rfl) rfl) qw_848  rfl [] rfl hl.1 (Nat.le_of_ble_eq_true rfl) ⟨Nat.le_of_ble_eq_true rfl, Nat.le_of_ble_eq_true rfl⟩ dX7_wouldTell_45 ⟨Nat.le_of_ble_eq_true rfl, Nat.le_of_ble_eq_true rfl⟩ (fun r_12 H locs hp_11 hS => ?_)
        obtain ⟨rfl, hH⟩ := hp_11
        refine lv_iload hx hb dX7_wouldTell_48 (lv_at hl 0 rfl) ?_
        refine lv_iconst (v := (-1)) hx hb dX7_wouldTell_50 (by decide +kernel) ?_
        refine lv_ixor hx hb dX7_wouldTell_51 ?_
        refine lv_iand hx hb dX7_wouldTell_52 ?_
        refine lv_istore (lv' := [(7, .int ((fBs (fun f => decide (red (mlF (mrw (kc sg rc (nI 1 <<< (nI p &&& 31)) i) (sets sg) na) x) 16 (nI 1 <<< (nI f &&& 31)) = 0)) nf) &&& ((fBs (fun f => decide (red (mrw (kc sg rc (nI 1 <<< (nI p &&& 31)) i) (sets sg) na) 16 (nI 1 <<< (nI f &&& 31)) = 0)) nf) ^^^ (-1)))), (6, .int (fBs (fun f => decide (red (mrw (kc sg rc (nI 1 <<< (nI p &&& 31)) i) (sets sg) na) 16 (nI 1 <<< (nI f &&& 31)) = 0)) nf)), (5, .int (nI i)), (4, .int (ob hd)), (3, .int bit), (2, .int x), (1, .int (nI p)), (0, .ref (al (10, 0, 0)))]) hx hb dX7_wouldTell_53 hl (by decide) rfl (fun ls hl => ?_)
        refine lv_iconst (v := nI 0) hx hb dX7_wouldTell_55 (by decide +kernel) ?_
        refine lv_istore (lv' := [(8, .int (nI 0)), (7, .int ((fBs (fun f => decide (red (mlF (mrw (kc sg rc (nI 1 <<< (nI p &&& 31)) i) (sets sg) na) x) 16 (nI 1 <<< (nI f &&& 31)) = 0)) nf) &&& ((fBs (fun f => decide (red (mrw (kc sg rc (nI 1 <<< (nI p &&& 31)) i) (sets sg) na) 16 (nI 1 <<< (nI f &&& 31)) = 0)) nf) ^^^ (-1)))), (6, .int (fBs (fun f => decide (red (mrw (kc sg rc (nI 1 <<< (nI p &&& 31)) i) (sets sg) na) 16 (nI 1 <<< (nI f &&& 31)) = 0)) nf)), (5, .int (nI i)), (4, .int (ob hd)), (3, .int bit), (2, .int x), (1, .int (nI p)), (0, .ref (al (10, 0, 0)))]) hx hb dX7_wouldTell_56 hl (by decide) rfl (fun ls hl => ?_)
        have lp58 : ∀ (k : Nat), k ≤ nf → ∀ (h2 : Bool) (H : Heap) (locs : List Loc) (ls : Array Slot), h2 = (hd || anyB (fun f => bt ((fBs (fun f => decide (red (mlF (mrw (kc sg rc (nI 1 <<< (nI p &&& 31)) i) (sets sg) na) x) 16 (nI 1 <<< (nI f &&& 31)) = 0)) nf) &&& ((fBs (fun f => decide (red (mrw (kc sg rc (nI 1 <<< (nI p &&& 31)) i) (sets sg) na) 16 (nI 1 <<< (nI f &&& 31)) = 0)) nf) ^^^ (-1))) f && !decide (rIn (sg 4 p f) (sg 5 p f) (sg 6 p f) (nI nw) = nI 2)) k) → xH E base al (xu w (10, 18, 0) (.inl (E.2.1 0, 16, .inl (mlF (mrw (kc sg rc (nI 1 <<< (nI p &&& 31)) i) (sets sg) na) x)))) H → va_S (xA base) s.heap H locs → lv_has ls 9 [(8, .int (nI k)), (7, .int ((fBs (fun f => decide (red (mlF (mrw (kc sg rc (nI 1 <<< (nI p &&& 31)) i) (sets sg) na) x) 16 (nI 1 <<< (nI f &&& 31)) = 0)) nf) &&& ((fBs (fun f => decide (red (mrw (kc sg rc (nI 1 <<< (nI p &&& 31)) i) (sets sg) na) 16 (nI 1 <<< (nI f &&& 31)) = 0)) nf) ^^^ (-1)))), (6, .int (fBs (fun f => decide (red (mrw (kc sg rc (nI 1 <<< (nI p &&& 31)) i) (sets sg) na) 16 (nI 1 <<< (nI f &&& 31)) = 0)) nf)), (5, .int (nI i)), (4, .int (ob h2)), (3, .int bit), (2, .int x), (1, .int (nI p)), (0, .ref (al (10, 0, 0)))] → W p9 l e9 ({ frames := 3, cells := 0, slots := 0, locals := 70 } : Room) s m9 ([.ref (al (10, 0, 0)), .int (nI p), .int x, .int bit] : List Value).toArray below meth c9 H locs 0 0 Q (F0 m9 58 ls []) := by
          refine lp_up ?_
          intro k hik ih58 h2 H locs ls hy2 hH hS hl
          refine lv_iload hx hb dX7_wouldTell_58 (lv_at hl 0 rfl) ?_
          refine lv_aload_n hx hb dX7_wouldTell_60 rfl (lv_at hl 8 rfl) ?_
          refine x_get C hH (ci := 8) (T := TX7) (N := 19) hM rfl iWX7 2 (by decide) qw_698 rfl rfl dX7_wouldTell_61 ?_
          refine lv_icmp_ge (tgt := 107) hx hb dX7_wouldTell_64 (by decide) (fun c_13 => ?_) (fun c_13 => ?_)
          · skip
            replace c_13 := (nI_leI (by omega) (by omega)).mp c_13
            have e8 : k = nf := by omega
            rw [e8] at hy2
            refine lv_iinc (v := nI (i + 1)) (lv' := [(5, .int (nI (i + 1))), (8, .int (nI k)), (7, .int ((fBs (fun f => decide (red (mlF (mrw (kc sg rc (nI 1 <<< (nI p &&& 31)) i) (sets sg) na) x) 16 (nI 1 <<< (nI f &&& 31)) = 0)) nf) &&& ((fBs (fun f => decide (red (mrw (kc sg rc (nI 1 <<< (nI p &&& 31)) i) (sets sg) na) 16 (nI 1 <<< (nI f &&& 31)) = 0)) nf) ^^^ (-1)))), (6, .int (fBs (fun f => decide (red (mrw (kc sg rc (nI 1 <<< (nI p &&& 31)) i) (sets sg) na) 16 (nI 1 <<< (nI f &&& 31)) = 0)) nf)), (4, .int (ob h2)), (3, .int bit), (2, .int x), (1, .int (nI p)), (0, .ref (al (10, 0, 0)))]) hx hb dX7_wouldTell_107 hl (k := 3) rfl (nI_1 _) (by decide) rfl (fun ls hl => ?_)
            refine lv_goto (tgt := 6) hx hb dX7_wouldTell_110 (by decide) ?_
            exact ih6 (by omega) h2 _ _ _ _ (by rw [hy2, hy]; show _ = (_ || (cov bit i && _)); rw [c_4]; simp) hH hS (lv_sub hl [0, 4, 5, 6, 7, 8] rfl)
          · skip
            replace c_13 := mt (nI_leI (by omega) (by omega)).mpr c_13
            refine lv_iload hx hb dX7_wouldTell_67 (lv_at hl 4 rfl) ?_
            refine lv_if_ne (tgt := 94) hx hb dX7_wouldTell_69 (by decide) (fun c_14 => ?_) (fun c_14 => ?_)
            · skip
              replace c_14 := ob_n.mp c_14
              refine lv_iconst (v := nI 1) hx hb dX7_wouldTell_94 (by decide +kernel) ?_
              refine lv_goto (tgt := 99) hx hb dX7_wouldTell_95 (by decide) ?_
              refine lv_istore (lv' := [(4, .int (nI 1)), (8, .int (nI k)), (7, .int ((fBs (fun f => decide (red (mlF (mrw (kc sg rc (nI 1 <<< (nI p &&& 31)) i) (sets sg) na) x) 16 (nI 1 <<< (nI f &&& 31)) = 0)) nf) &&& ((fBs (fun f => decide (red (mrw (kc sg rc (nI 1 <<< (nI p &&& 31)) i) (sets sg) na) 16 (nI 1 <<< (nI f &&& 31)) = 0)) nf) ^^^ (-1)))), (6, .int (fBs (fun f => decide (red (mrw (kc sg rc (nI 1 <<< (nI p &&& 31)) i) (sets sg) na) 16 (nI 1 <<< (nI f &&& 31)) = 0)) nf)), (5, .int (nI i)), (3, .int bit), (2, .int x), (1, .int (nI p)), (0, .ref (al (10, 0, 0)))]) hx hb dX7_wouldTell_99 hl (by decide) rfl (fun ls hl => ?_)
              refine lv_iinc (v := nI (k + 1)) (lv' := [(8, .int (nI (k + 1))), (4, .int (nI 1)), (7, .int ((fBs (fun f => decide (red (mlF (mrw (kc sg rc (nI 1 <<< (nI p &&& 31)) i) (sets sg) na) x) 16 (nI 1 <<< (nI f &&& 31)) = 0)) nf) &&& ((fBs (fun f => decide (red (mrw (kc sg rc (nI 1 <<< (nI p &&& 31)) i) (sets sg) na) 16 (nI 1 <<< (nI f &&& 31)) = 0)) nf) ^^^ (-1)))), (6, .int (fBs (fun f => decide (red (mrw (kc sg rc (nI 1 <<< (nI p &&& 31)) i) (sets sg) na) 16 (nI 1 <<< (nI f &&& 31)) = 0)) nf)), (5, .int (nI i)), (3, .int bit), (2, .int x), (1, .int (nI p)), (0, .ref (al (10, 0, 0)))]) hx hb dX7_wouldTell_101 hl (k := 1) rfl (nI_1 _) (by decide) rfl (fun ls hl => ?_)
              refine lv_goto (tgt := 58) hx hb dX7_wouldTell_104 (by decide) ?_
              exact ih58 (by omega) true _ _ _ (by show _ = (hd || (anyB (fun f => bt ((fBs (fun f => decide (red (mlF (mrw (kc sg rc (nI 1 <<< (nI p &&& 31)) i) (sets sg) na) x) 16 (nI 1 <<< (nI f &&& 31)) = 0)) nf) &&& ((fBs (fun f => decide (red (mrw (kc sg rc (nI 1 <<< (nI p &&& 31)) i) (sets sg) na) 16 (nI 1 <<< (nI f &&& 31)) = 0)) nf) ^^^ (-1))) f && !decide (rIn (sg 4 p f) (sg 5 p f) (sg 6 p f) (nI nw) = nI 2)) k || (bt ((fBs (fun f => decide (red (mlF (mrw (kc sg rc (nI 1 <<< (nI p &&& 31)) i) (sets sg) na) x) 16 (nI 1 <<< (nI f &&& 31)) = 0)) nf) &&& ((fBs (fun f => decide (red (mrw (kc sg rc (nI 1 <<< (nI p &&& 31)) i) (sets sg) na) 16 (nI 1 <<< (nI f &&& 31)) = 0)) nf) ^^^ (-1))) k && !decide (rIn (sg 4 p k) (sg 5 p k) (sg 6 p k) (nI nw) = nI 2)))); rw [← Bool.or_assoc, ← hy2]; simp only [c_14, decide_true, decide_false, Bool.or_true, Bool.true_or, Bool.false_or, Bool.or_false, Bool.not_true, Bool.not_false, Bool.and_true, Bool.true_and, Bool.and_false, Bool.false_and]) hH hS (lv_sub hl [0, 2, 3, 4, 1, 5, 6, 7, 8] rfl)
            · skip
              replace c_14 := ob_0.mp c_14
              refine lv_iload hx hb dX7_wouldTell_72 (lv_at hl 1 rfl) ?_
              refine lv_iload hx hb dX7_wouldTell_74 (lv_at hl 0 rfl) ?_
              refine lv_ishr hx hb dX7_wouldTell_76 ?_
              refine lv_iconst (v := nI 1) hx hb dX7_wouldTell_77 (by decide +kernel) ?_
              refine lv_iand hx hb dX7_wouldTell_78 ?_
              refine lv_re (hd_bt ((fBs (fun f => decide (red (mlF (mrw (kc sg rc (nI 1 <<< (nI p &&& 31)) i) (sets sg) na) x) 16 (nI 1 <<< (nI f &&& 31)) = 0)) nf) &&& ((fBs (fun f => decide (red (mrw (kc sg rc (nI 1 <<< (nI p &&& 31)) i) (sets sg) na) 16 (nI 1 <<< (nI f &&& 31)) = 0)) nf) ^^^ (-1))) (k := k) (by omega)) ?_
              refine lv_iconst (v := nI 1) hx hb dX7_wouldTell_79 (by decide +kernel) ?_
              refine lv_icmp_ne (tgt := 98) hx hb dX7_wouldTell_80 (by decide) (fun c_15 => ?_) (fun c_15 => ?_)
              · skip
                replace c_15 := ob_n1.mp c_15
                refine lv_iconst (v := nI 0) hx hb dX7_wouldTell_98 (by decide +kernel) ?_
                refine lv_istore (lv' := [(4, .int (nI 0)), (8, .int (nI k)), (7, .int ((fBs (fun f => decide (red (mlF (mrw (kc sg rc (nI 1 <<< (nI p &&& 31)) i) (sets sg) na) x) 16 (nI 1 <<< (nI f &&& 31)) = 0)) nf) &&& ((fBs (fun f => decide (red (mrw (kc sg rc (nI 1 <<< (nI p &&& 31)) i) (sets sg) na) 16 (nI 1 <<< (nI f &&& 31)) = 0)) nf) ^^^ (-1)))), (6, .int (fBs (fun f => decide (red (mrw (kc sg rc (nI 1 <<< (nI p &&& 31)) i) (sets sg) na) 16 (nI 1 <<< (nI f &&& 31)) = 0)) nf)), (5, .int (nI i)), (3, .int bit), (2, .int x), (1, .int (nI p)), (0, .ref (al (10, 0, 0)))]) hx hb dX7_wouldTell_99 hl (by decide) rfl (fun ls hl => ?_)
                refine lv_iinc (v := nI (k + 1)) (lv' := [(8, .int (nI (k + 1))), (4, .int (nI 0)), (7, .int ((fBs (fun f => decide (red (mlF (mrw (kc sg rc (nI 1 <<< (nI p &&& 31)) i) (sets sg) na) x) 16 (nI 1 <<< (nI f &&& 31)) = 0)) nf) &&& ((fBs (fun f => decide (red (mrw (kc sg rc (nI 1 <<< (nI p &&& 31)) i) (sets sg) na) 16 (nI 1 <<< (nI f &&& 31)) = 0)) nf) ^^^ (-1)))), (6, .int (fBs (fun f => decide (red (mrw (kc sg rc (nI 1 <<< (nI p &&& 31)) i) (sets sg) na) 16 (nI 1 <<< (nI f &&& 31)) = 0)) nf)), (5, .int (nI i)), (3, .int bit), (2, .int x), (1, .int (nI p)), (0, .ref (al (10, 0, 0)))]) hx hb dX7_wouldTell_101 hl (k := 1) rfl (nI_1 _) (by decide) rfl (fun ls hl => ?_)
                refine lv_goto (tgt := 58) hx hb dX7_wouldTell_104 (by decide) ?_
                exact ih58 (by omega) false _ _ _ (by show _ = (hd || (anyB (fun f => bt ((fBs (fun f => decide (red (mlF (mrw (kc sg rc (nI 1 <<< (nI p &&& 31)) i) (sets sg) na) x) 16 (nI 1 <<< (nI f &&& 31)) = 0)) nf) &&& ((fBs (fun f => decide (red (mrw (kc sg rc (nI 1 <<< (nI p &&& 31)) i) (sets sg) na) 16 (nI 1 <<< (nI f &&& 31)) = 0)) nf) ^^^ (-1))) f && !decide (rIn (sg 4 p f) (sg 5 p f) (sg 6 p f) (nI nw) = nI 2)) k || (bt ((fBs (fun f => decide (red (mlF (mrw (kc sg rc (nI 1 <<< (nI p &&& 31)) i) (sets sg) na) x) 16 (nI 1 <<< (nI f &&& 31)) = 0)) nf) &&& ((fBs (fun f => decide (red (mrw (kc sg rc (nI 1 <<< (nI p &&& 31)) i) (sets sg) na) 16 (nI 1 <<< (nI f &&& 31)) = 0)) nf) ^^^ (-1))) k && !decide (rIn (sg 4 p k) (sg 5 p k) (sg 6 p k) (nI nw) = nI 2)))); rw [← Bool.or_assoc, ← hy2]; simp only [c_14, c_15, decide_true, decide_false, Bool.or_true, Bool.true_or, Bool.false_or, Bool.or_false, Bool.not_true, Bool.not_false, Bool.and_true, Bool.true_and, Bool.and_false, Bool.false_and]) hH hS (lv_sub hl [0, 2, 3, 4, 1, 5, 6, 7, 8] rfl)
              · skip
                replace c_15 := ob_1.mp c_15
                refine lv_aload_n hx hb dX7_wouldTell_83 rfl (lv_at hl 8 rfl) ?_
                refine lv_iload_n hx hb dX7_wouldTell_84 rfl (lv_at hl 7 rfl) ?_
                refine lv_iload hx hb dX7_wouldTell_85 (lv_at hl 0 rfl) ?_
                refine x_callV C hH hS (ci := 8) (t := (10, 0, 0)) hM rfl rfl (m_rightOf l (E := E) (base := base) hMM3 (p := p) (f := k) (by omega) (by omega)) hH kX7_rightOf qw_824 (ws_p (List.mem_of_getElem? (i := 25) rfl) rfl) qw_822  rfl [] rfl hl.1 (Nat.le_of_ble_eq_true rfl) ⟨Nat.le_of_ble_eq_true rfl, Nat.le_of_ble_eq_true rfl⟩ dX7_wouldTell_87 ⟨Nat.le_of_ble_eq_true rfl, Nat.le_of_ble_eq_true rfl⟩ (fun r_17 H locs hp_16 hS => ?_)
                obtain ⟨rfl, hH⟩ := hp_16
                refine lv_iconst (v := nI 2) hx hb dX7_wouldTell_90 (by decide +kernel) ?_
                refine lv_icmp_eq (tgt := 98) hx hb dX7_wouldTell_91 (by decide) (fun c_18 => ?_) (fun c_18 => ?_)
                · skip
                  refine lv_iconst (v := nI 0) hx hb dX7_wouldTell_98 (by decide +kernel) ?_
                  refine lv_istore (lv' := [(4, .int (nI 0)), (8, .int (nI k)), (7, .int ((fBs (fun f => decide (red (mlF (mrw (kc sg rc (nI 1 <<< (nI p &&& 31)) i) (sets sg) na) x) 16 (nI 1 <<< (nI f &&& 31)) = 0)) nf) &&& ((fBs (fun f => decide (red (mrw (kc sg rc (nI 1 <<< (nI p &&& 31)) i) (sets sg) na) 16 (nI 1 <<< (nI f &&& 31)) = 0)) nf) ^^^ (-1)))), (6, .int (fBs (fun f => decide (red (mrw (kc sg rc (nI 1 <<< (nI p &&& 31)) i) (sets sg) na) 16 (nI 1 <<< (nI f &&& 31)) = 0)) nf)), (5, .int (nI i)), (3, .int bit), (2, .int x), (1, .int (nI p)), (0, .ref (al (10, 0, 0)))]) hx hb dX7_wouldTell_99 hl (by decide) rfl (fun ls hl => ?_)
                  refine lv_iinc (v := nI (k + 1)) (lv' := [(8, .int (nI (k + 1))), (4, .int (nI 0)), (7, .int ((fBs (fun f => decide (red (mlF (mrw (kc sg rc (nI 1 <<< (nI p &&& 31)) i) (sets sg) na) x) 16 (nI 1 <<< (nI f &&& 31)) = 0)) nf) &&& ((fBs (fun f => decide (red (mrw (kc sg rc (nI 1 <<< (nI p &&& 31)) i) (sets sg) na) 16 (nI 1 <<< (nI f &&& 31)) = 0)) nf) ^^^ (-1)))), (6, .int (fBs (fun f => decide (red (mrw (kc sg rc (nI 1 <<< (nI p &&& 31)) i) (sets sg) na) 16 (nI 1 <<< (nI f &&& 31)) = 0)) nf)), (5, .int (nI i)), (3, .int bit), (2, .int x), (1, .int (nI p)), (0, .ref (al (10, 0, 0)))]) hx hb dX7_wouldTell_101 hl (k := 1) rfl (nI_1 _) (by decide) rfl (fun ls hl => ?_)
                  refine lv_goto (tgt := 58) hx hb dX7_wouldTell_104 (by decide) ?_
                  exact ih58 (by omega) false _ _ _ (by show _ = (hd || (anyB (fun f => bt ((fBs (fun f => decide (red (mlF (mrw (kc sg rc (nI 1 <<< (nI p &&& 31)) i) (sets sg) na) x) 16 (nI 1 <<< (nI f &&& 31)) = 0)) nf) &&& ((fBs (fun f => decide (red (mrw (kc sg rc (nI 1 <<< (nI p &&& 31)) i) (sets sg) na) 16 (nI 1 <<< (nI f &&& 31)) = 0)) nf) ^^^ (-1))) f && !decide (rIn (sg 4 p f) (sg 5 p f) (sg 6 p f) (nI nw) = nI 2)) k || (bt ((fBs (fun f => decide (red (mlF (mrw (kc sg rc (nI 1 <<< (nI p &&& 31)) i) (sets sg) na) x) 16 (nI 1 <<< (nI f &&& 31)) = 0)) nf) &&& ((fBs (fun f => decide (red (mrw (kc sg rc (nI 1 <<< (nI p &&& 31)) i) (sets sg) na) 16 (nI 1 <<< (nI f &&& 31)) = 0)) nf) ^^^ (-1))) k && !decide (rIn (sg 4 p k) (sg 5 p k) (sg 6 p k) (nI nw) = nI 2)))); rw [← Bool.or_assoc, ← hy2]; simp only [c_14, c_15, c_18, decide_true, decide_false, Bool.or_true, Bool.true_or, Bool.false_or, Bool.or_false, Bool.not_true, Bool.not_false, Bool.and_true, Bool.true_and, Bool.and_false, Bool.false_and]) hH hS (lv_sub hl [0, 2, 3, 4, 1, 5, 6, 7, 8] rfl)
                · skip
                  refine lv_iconst (v := nI 1) hx hb dX7_wouldTell_94 (by decide +kernel) ?_
                  refine lv_goto (tgt := 99) hx hb dX7_wouldTell_95 (by decide) ?_
                  refine lv_istore (lv' := [(4, .int (nI 1)), (8, .int (nI k)), (7, .int ((fBs (fun f => decide (red (mlF (mrw (kc sg rc (nI 1 <<< (nI p &&& 31)) i) (sets sg) na) x) 16 (nI 1 <<< (nI f &&& 31)) = 0)) nf) &&& ((fBs (fun f => decide (red (mrw (kc sg rc (nI 1 <<< (nI p &&& 31)) i) (sets sg) na) 16 (nI 1 <<< (nI f &&& 31)) = 0)) nf) ^^^ (-1)))), (6, .int (fBs (fun f => decide (red (mrw (kc sg rc (nI 1 <<< (nI p &&& 31)) i) (sets sg) na) 16 (nI 1 <<< (nI f &&& 31)) = 0)) nf)), (5, .int (nI i)), (3, .int bit), (2, .int x), (1, .int (nI p)), (0, .ref (al (10, 0, 0)))]) hx hb dX7_wouldTell_99 hl (by decide) rfl (fun ls hl => ?_)
                  refine lv_iinc (v := nI (k + 1)) (lv' := [(8, .int (nI (k + 1))), (4, .int (nI 1)), (7, .int ((fBs (fun f => decide (red (mlF (mrw (kc sg rc (nI 1 <<< (nI p &&& 31)) i) (sets sg) na) x) 16 (nI 1 <<< (nI f &&& 31)) = 0)) nf) &&& ((fBs (fun f => decide (red (mrw (kc sg rc (nI 1 <<< (nI p &&& 31)) i) (sets sg) na) 16 (nI 1 <<< (nI f &&& 31)) = 0)) nf) ^^^ (-1)))), (6, .int (fBs (fun f => decide (red (mrw (kc sg rc (nI 1 <<< (nI p &&& 31)) i) (sets sg) na) 16 (nI 1 <<< (nI f &&& 31)) = 0)) nf)), (5, .int (nI i)), (3, .int bit), (2, .int x), (1, .int (nI p)), (0, .ref (al (10, 0, 0)))]) hx hb dX7_wouldTell_101 hl (k := 1) rfl (nI_1 _) (by decide) rfl (fun ls hl => ?_)
                  refine lv_goto (tgt := 58) hx hb dX7_wouldTell_104 (by decide) ?_
                  exact ih58 (by omega) true _ _ _ (by show _ = (hd || (anyB (fun f => bt ((fBs (fun f => decide (red (mlF (mrw (kc sg rc (nI 1 <<< (nI p &&& 31)) i) (sets sg) na) x) 16 (nI 1 <<< (nI f &&& 31)) = 0)) nf) &&& ((fBs (fun f => decide (red (mrw (kc sg rc (nI 1 <<< (nI p &&& 31)) i) (sets sg) na) 16 (nI 1 <<< (nI f &&& 31)) = 0)) nf) ^^^ (-1))) f && !decide (rIn (sg 4 p f) (sg 5 p f) (sg 6 p f) (nI nw) = nI 2)) k || (bt ((fBs (fun f => decide (red (mlF (mrw (kc sg rc (nI 1 <<< (nI p &&& 31)) i) (sets sg) na) x) 16 (nI 1 <<< (nI f &&& 31)) = 0)) nf) &&& ((fBs (fun f => decide (red (mrw (kc sg rc (nI 1 <<< (nI p &&& 31)) i) (sets sg) na) 16 (nI 1 <<< (nI f &&& 31)) = 0)) nf) ^^^ (-1))) k && !decide (rIn (sg 4 p k) (sg 5 p k) (sg 6 p k) (nI nw) = nI 2)))); rw [← Bool.or_assoc, ← hy2]; simp only [c_14, c_15, c_18, decide_true, decide_false, Bool.or_true, Bool.true_or, Bool.false_or, Bool.or_false, Bool.not_true, Bool.not_false, Bool.and_true, Bool.true_and, Bool.and_false, Bool.false_and]) hH hS (lv_sub hl [0, 2, 3, 4, 1, 5, 6, 7, 8] rfl)
        exact lp58 0 (Nat.zero_le _) hd _ _ _ (by simp [anyB]) hH hS (lv_sub hl [0, 1, 2, 3, 4, 5, 6, 7, 8] rfl)
  exact lp6 0 (Nat.zero_le _) false fr _ _ _ rfl (by rw [xu_same mm18]; exact hH) hS (lv_sub hl [0, 1, 5, 4, 3, 2] rfl)
