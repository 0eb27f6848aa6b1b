set_option maxHeartbeats 8000000 in
set_option maxRecDepth 100000 in
theorem l_isSo (l : Launch) (hfl : l.stackTraces = false) {E : xE} {base A0 : Nat} {nf np na nw : Nat} {sg : Nat → Nat → Nat → Int32} {rc : Nat → Bool} (hV : JV (nf, np, na, nw, sg, rc)) : xMet l yL_isSo cL_isSo 8 (some (.boolean)) ({ frames := 9, cells := 2000, slots := 12000, locals := 151 } : Room) E base [.ref A0] (SR E base A0 (nf, np, na, nw, sg, rc)) (fun r H => r = some (.int (nI 1)) ∧ SR E base A0 (nf, np, na, nw, sg, rc) H) := by
  obtain ⟨hI, hJ⟩ := hV
  replace hI : INV nf np na nw sg rc := hI
  replace hJ : J2 nf np na sg := hJ
  have b1 : nf ≤ 16 := hI.1
  have b2 : np ≤ 6 := hI.2.1
  have b3 : na ≤ 150 := hI.2.2.1
  refine xMet.of (by decide +kernel) "DataroomLaw" rfl (Nat.le_of_ble_eq_true rfl) ?_
  intro p9 e9 s m9 below meth c9 ls C hin hD hS hl
  have hx := C.hx
  have hb := C.hb
  have hl : lv_has ls 8 [(0, .ref A0)] := hl
  obtain ⟨post, hpost⟩ : ∃ zz9 : Option Value → Heap → Prop, zz9 = (fun r H => r = some (.int (nI 1)) ∧ SR E base A0 (nf, np, na, nw, sg, rc) H) := ⟨_, rfl⟩
  rw [← hpost]
  generalize hQ : (MQ below (xQ base post) ([.ref A0] : List Value).toArray s 2000 12000 (xA base)) = Q
  have lp2 : ∀ (p : Nat), p ≤ 6 → ∀ (H : Heap) (locs : List Loc) (ls : Array Slot), SR E base A0 (nf, np, na, nw, sg, rc) H → va_S (xA base) s.heap H locs → lv_has ls 8 [(4, .int (nI p)), (3, .int (nI (alN np na sg rc p))), (2, .int (nI (lvN na rc 150))), (1, .int (nI 1)), (0, .ref A0)] → W p9 l e9 ({ frames := 9, cells := 2000, slots := 12000, locals := 151 } : Room) s m9 ([.ref A0] : List Value).toArray below meth c9 H locs (1500 + 63 * p) (9000 + 378 * p) Q (F0 m9 157 ls []) := by
    refine lp_up ?_
    intro p hp9 ihp H locs ls hD hS hl
    refine lv_iload hx hb dL_isSo_157 (lv_at hl 0 rfl) ?_
    refine lv_bipush (v := nI 6) hx hb dL_isSo_159 (by decide +kernel) ?_
    refine lv_icmp_ge (tgt := 336) hx hb dL_isSo_161 (by decide) (fun c => ?_) (fun c => ?_)
    · skip
      replace c := (nI_leI (by omega) (by omega)).mp c
      obtain rfl : p = 6 := by omega
      refine lv_iload_n hx hb dL_isSo_336 rfl (lv_at hl 3 rfl) ?_
      refine lv_if_eq (tgt := 371) hx hb dL_isSo_337 (by decide) (fun c_1 => absurd c_1 (by decide +kernel)) (fun c_1 => ?_)
      clear c_1
      refine lv_iload_n hx hb dL_isSo_340 rfl (lv_at hl 2 rfl) ?_
      refine lv_iload_n hx hb dL_isSo_341 rfl (lv_at hl 1 rfl) ?_
      refine lv_icmp_ne (tgt := 371) hx hb dL_isSo_342 (by decide) (fun c => absurd (congrArg nI (so_all hI)) c) (fun _ => ?_)
      refine lv_aload_n hx hb dL_isSo_345 rfl (lv_at hl 4 rfl) ?_
      refine lv_bipush (v := nI 6) hx hb dL_isSo_346 (by decide +kernel) ?_
      refine x_callH (k := 2) C hS (HR.one (S := (nf, np, na, nw, sg, rc)) (l_spent l hfl (E := E) (base := base) (S := (nf, np, na, nw, sg, rc)) hI (x := nI 6))) hD qw_595 qw_0 ⟨by decide +kernel, by decide +kernel, by decide +kernel⟩ qw_594 qw_593 rfl [] rfl hl.1 (Nat.le_of_ble_eq_true rfl) ⟨(Nat.le_of_ble_eq_true rfl), (Nat.le_of_ble_eq_true rfl)⟩ dL_isSo_348 ⟨by show 1500 + 63 * 6 + 1 ≤ 2000; omega, by show 9000 + 378 * 6 + 6 ≤ 12000; omega⟩ (fun r H locs hp hS => ?_)
      obtain ⟨rfl, hD⟩ := hp
      rw [fS_spent] at hD
      refine lv_re (y := (-99999999)) (v_spent_n hI (by decide) (by omega)) ?_
      refine lv_ldc (v := (-99999999)) hx hb C.hown (C.ws _ qw_289) dL_isSo_351 ?_
      refine lv_icmp_ne (tgt := 371) hx hb dL_isSo_353 (by decide) (fun c => absurd rfl c) (fun _ => ?_)
      refine lv_aload_n hx hb dL_isSo_356 rfl (lv_at hl 4 rfl) ?_
      refine lv_iconst (v := (-1)) hx hb dL_isSo_357 (by decide +kernel) ?_
      refine lv_iconst (v := nI 0) hx hb dL_isSo_358 (by decide +kernel) ?_
      refine x_callH (k := 3) C hS (HR.one (S := (nf, np, na, nw, sg, rc)) (l_answer l hfl (E := E) (base := base) (S := (nf, np, na, nw, sg, rc)) hI (x := (-1)) (z := nI 0))) hD qw_583 qw_0 ⟨by decide +kernel, by decide +kernel, by decide +kernel⟩ qw_582 qw_581 rfl [] rfl hl.1 (Nat.le_of_ble_eq_true rfl) ⟨(Nat.le_of_ble_eq_true rfl), (Nat.le_of_ble_eq_true rfl)⟩ dL_isSo_359 ⟨by show 1500 + 63 * 6 + 1 + 1 ≤ 2000; omega, by show 9000 + 378 * 6 + 6 + 6 ≤ 12000; omega⟩ (fun r H locs hp hS => ?_)
      obtain ⟨rfl, hD⟩ := hp
      rw [fS_answer] at hD
      refine lv_re (y := (-99999999)) (v_answer_m hI) ?_
      refine lv_ldc (v := (-99999999)) hx hb C.hown (C.ws _ qw_289) dL_isSo_362 ?_
      refine lv_icmp_ne (tgt := 371) hx hb dL_isSo_364 (by decide) (fun c => absurd rfl c) (fun _ => ?_)
      refine lv_iconst (v := nI 1) hx hb dL_isSo_367 (by decide +kernel) ?_
      refine lv_goto (tgt := 372) hx hb dL_isSo_368 (by decide) ?_
      rw [← hQ]
      refine x_reti C rfl hS (Nat.le_of_ble_eq_true rfl) (Nat.le_of_ble_eq_true rfl) dL_isSo_372 ?_
      rw [hpost]
      exact ⟨rfl, hD⟩
    · skip
      replace c := mt (nI_leI (by omega) (by omega)).mpr c
      have hp6 : p < 6 := by omega
      by_cases hp : p < np
      · skip
        have ea : alN np na sg rc (p + 1) = alN np na sg rc p + cSt sg rc p na := by show _ + (if p < np then _ else _) = _; rw [if_pos hp]
        have h128 : sC (KCs sg rc na p) 8 ≤ 128 := so_128 hI
        have lp3 : ∀ (f : Nat), f ≤ 5 → ∀ (H : Heap) (locs : List Loc) (ls : Array Slot), SR E base A0 (nf, np, na, nw, sg, rc) H → va_S (xA base) s.heap H locs → lv_has ls 8 [(6, .int (nI f)), (4, .int (nI p)), (3, .int (nI (alN np na sg rc (p + 1)))), (2, .int (nI (lvN na rc 150))), (1, .int (nI 1)), (0, .ref A0)] → W p9 l e9 ({ frames := 9, cells := 2000, slots := 12000, locals := 151 } : Room) s m9 ([.ref A0] : List Value).toArray below meth c9 H locs (1500 + 63 * p + 8 + 11 * f) (9000 + 378 * p + 48 + 66 * f) Q (F0 m9 236 ls []) := by
          refine lp_up ?_
          intro f hf9 ihf H locs ls hD hS hl
          refine lv_iload hx hb dL_isSo_236 (lv_at hl 0 rfl) ?_
          refine lv_iconst (v := nI 5) hx hb dL_isSo_238 (by decide +kernel) ?_
          refine lv_icmp_ge (tgt := 330) hx hb dL_isSo_239 (by decide) (fun c => ?_) (fun c => ?_)
          · skip
            replace c := (nI_leI (by omega) (by omega)).mp c
            obtain rfl : f = 5 := by omega
            refine lv_iinc (v := nI (p + 1)) (lv' := [(4, .int (nI (p + 1))), (6, .int (nI 5)), (3, .int (nI (alN np na sg rc (p + 1)))), (2, .int (nI (lvN na rc 150))), (1, .int (nI 1)), (0, .ref A0)]) hx hb dL_isSo_330 hl (k := 1) rfl (nI_1 _) (by decide) rfl (fun ls hl => ?_)
            refine lv_goto (tgt := 157) hx hb dL_isSo_333 (by decide) ?_
            refine W.widen (k := 1500 + 63 * (p + 1)) (n := 9000 + 378 * (p + 1)) (by show 1500 + 63 * p + 8 + 11 * 5 ≤ _; omega) (by show 9000 + 378 * p + 48 + 66 * 5 ≤ _; omega) ?_
            exact ihp (by omega) _ _ _ hD hS (lv_sub hl [0, 2, 3, 4, 5] rfl)
          · skip
            replace c := mt (nI_leI (by omega) (by omega)).mpr c
            have hf5 : f < 5 := by omega
            have hc8 := cC_le (KF := KFs sg rc na p) (bit := -1) (x := nI 1 <<< (nI f &&& 31)) 8
            by_cases hf : f < nf
            · skip
              refine lv_iload_n hx hb dL_isSo_242 rfl (lv_at hl 4 rfl) ?_
              refine lv_if_eq (tgt := 330) hx hb dL_isSo_243 (by decide) (fun c_2 => absurd c_2 (by decide +kernel)) (fun c_2 => ?_)
              clear c_2
              refine lv_aload_n hx hb dL_isSo_246 rfl (lv_at hl 5 rfl) ?_
              refine lv_iload hx hb dL_isSo_247 (lv_at hl 1 rfl) ?_
              refine lv_iload hx hb dL_isSo_249 (lv_at hl 0 rfl) ?_
              refine x_callH (k := 3) C hS (HR.one (S := (nf, np, na, nw, sg, rc)) (l_finds l hfl (E := E) (base := base) (S := (nf, np, na, nw, sg, rc)) hI (x := nI p) (z := nI f))) hD qw_602 qw_0 ⟨by decide +kernel, by decide +kernel, by decide +kernel⟩ qw_601 qw_600 rfl [] rfl hl.1 (Nat.le_of_ble_eq_true rfl) ⟨(Nat.le_of_ble_eq_true rfl), (Nat.le_of_ble_eq_true rfl)⟩ dL_isSo_251 ⟨by show 1500 + 63 * p + 8 + 11 * f + 2 ≤ 2000; omega, by show 9000 + 378 * p + 48 + 66 * f + 12 ≤ 12000; omega⟩ (fun r H locs hp hS => ?_)
              obtain ⟨rfl, hD⟩ := hp
              rw [fS_finds] at hD
              refine lv_re (y := (fBs (fun b => decide (red (KFs sg rc na p b) 16 (nI 1 <<< (nI f &&& 31)) = 0)) 8)) (v_finds hI hp hf) ?_
              refine lv_istore (lv' := [(7, .int (fBs (fun b => decide (red (KFs sg rc na p b) 16 (nI 1 <<< (nI f &&& 31)) = 0)) 8)), (6, .int (nI f)), (4, .int (nI p)), (3, .int (nI (alN np na sg rc (p + 1)))), (2, .int (nI (lvN na rc 150))), (1, .int (nI 1)), (0, .ref A0)]) hx hb dL_isSo_254 hl (by decide) rfl (fun ls hl => ?_)
              refine lv_iload hx hb dL_isSo_256 (lv_at hl 0 rfl) ?_
              refine lv_if_lt (tgt := 318) hx hb dL_isSo_258 (by decide) (fun c_3 => ?_) (fun c_3 => ?_)
              · skip
                refine lv_iconst (v := nI 1) hx hb dL_isSo_318 (by decide +kernel) ?_
                refine lv_goto (tgt := 323) hx hb dL_isSo_319 (by decide) ?_
                refine lv_istore_n (lv' := [(1, .int (nI 1)), (7, .int (fBs (fun b => decide (red (KFs sg rc na p b) 16 (nI 1 <<< (nI f &&& 31)) = 0)) 8)), (6, .int (nI f)), (4, .int (nI p)), (3, .int (nI (alN np na sg rc (p + 1)))), (2, .int (nI (lvN na rc 150))), (0, .ref A0)]) hx hb dL_isSo_323 rfl hl (by decide) rfl (fun ls hl => ?_)
                refine lv_iinc (v := nI (f + 1)) (lv' := [(6, .int (nI (f + 1))), (1, .int (nI 1)), (7, .int (fBs (fun b => decide (red (KFs sg rc na p b) 16 (nI 1 <<< (nI f &&& 31)) = 0)) 8)), (4, .int (nI p)), (3, .int (nI (alN np na sg rc (p + 1)))), (2, .int (nI (lvN na rc 150))), (0, .ref A0)]) hx hb dL_isSo_324 hl (k := 2) rfl (nI_1 _) (by decide) rfl (fun ls hl => ?_)
                refine lv_goto (tgt := 236) hx hb dL_isSo_327 (by decide) ?_
                refine W.widen (k := 1500 + 63 * p + 8 + 11 * (f + 1)) (n := 9000 + 378 * p + 48 + 66 * (f + 1)) (by show 1500 + 63 * p + 8 + 11 * f + 2 ≤ _; omega) (by show 9000 + 378 * p + 48 + 66 * f + 12 ≤ _; omega) ?_
                exact ihf (by omega) _ _ _ hD hS (lv_sub hl [0, 3, 4, 5, 1, 6] rfl)
              · skip
                refine lv_iload hx hb dL_isSo_261 (lv_at hl 0 rfl) ?_
                refine lv_aload_n hx hb dL_isSo_263 rfl (lv_at hl 6 rfl) ?_
                refine lv_iconst (v := nI 1) hx hb dL_isSo_264 (by decide +kernel) ?_
                refine lv_iload hx hb dL_isSo_265 (lv_at hl 2 rfl) ?_
                refine lv_ishl hx hb dL_isSo_267 ?_
                refine lv_iload hx hb dL_isSo_268 (lv_at hl 1 rfl) ?_
                refine x_dir C hS hD (q_tog1 (E := E) (base := base) l hfl hI  (p := p) (f := f) hp hf) rfl kX6_together qw_612 qw_613 qw_611 rfl [.int (fBs (fun b => decide (red (KFs sg rc na p b) 16 (nI 1 <<< (nI f &&& 31)) = 0)) 8)] rfl hl.1 (Nat.le_of_ble_eq_true rfl) ⟨(Nat.le_of_ble_eq_true rfl), (Nat.le_of_ble_eq_true rfl)⟩ dL_isSo_270 ⟨by show 1500 + 63 * p + 8 + 11 * f + 2 + 2 ≤ 2000; omega, by show 9000 + 378 * p + 48 + 66 * f + 12 + 12 ≤ 12000; omega⟩ (fun H locs hD hS => ?_)
                refine lv_iconst (v := (-1)) hx hb dL_isSo_273 (by decide +kernel) ?_
                refine lv_ixor hx hb dL_isSo_274 ?_
                refine lv_iand hx hb dL_isSo_275 ?_
                refine lv_if_ne (tgt := 322) hx hb dL_isSo_276 (by decide) (fun c => absurd (and_no _) c) (fun _ => ?_)
                refine lv_aload_n hx hb dL_isSo_279 rfl (lv_at hl 6 rfl) ?_
                refine lv_iconst (v := nI 1) hx hb dL_isSo_280 (by decide +kernel) ?_
                refine lv_iload hx hb dL_isSo_281 (lv_at hl 2 rfl) ?_
                refine lv_ishl hx hb dL_isSo_283 ?_
                refine lv_iload hx hb dL_isSo_284 (lv_at hl 1 rfl) ?_
                refine x_dir C hS hD (q_tog1 (E := E) (base := base) l hfl hI  (p := p) (f := f) hp hf) rfl kX6_together qw_612 qw_613 qw_611 rfl [] rfl hl.1 (Nat.le_of_ble_eq_true rfl) ⟨(Nat.le_of_ble_eq_true rfl), (Nat.le_of_ble_eq_true rfl)⟩ dL_isSo_286 ⟨by show 1500 + 63 * p + 8 + 11 * f + 2 + 2 + 2 ≤ 2000; omega, by show 9000 + 378 * p + 48 + 66 * f + 12 + 12 + 12 ≤ 12000; omega⟩ (fun H locs hD hS => ?_)
                refine lv_iload hx hb dL_isSo_289 (lv_at hl 0 rfl) ?_
                refine lv_icmp_ne (tgt := 322) hx hb dL_isSo_291 (by decide) (fun c => absurd rfl c) (fun _ => ?_)
                refine lv_aload_n hx hb dL_isSo_294 rfl (lv_at hl 6 rfl) ?_
                refine lv_iconst (v := nI 0) hx hb dL_isSo_295 (by decide +kernel) ?_
                refine lv_iload hx hb dL_isSo_296 (lv_at hl 1 rfl) ?_
                refine x_dir C hS hD (q_tog0 (E := E) (base := base) l hfl hI  (f := f) hf) rfl kX6_together qw_612 qw_613 qw_611 rfl [] rfl hl.1 (Nat.le_of_ble_eq_true rfl) ⟨(Nat.le_of_ble_eq_true rfl), (Nat.le_of_ble_eq_true rfl)⟩ dL_isSo_298 ⟨by show 1500 + 63 * p + 8 + 11 * f + 2 + 2 + 2 + 2 ≤ 2000; omega, by show 9000 + 378 * p + 48 + 66 * f + 12 + 12 + 12 + 12 ≤ 12000; omega⟩ (fun H locs hD hS => ?_)
                refine lv_if_ne (tgt := 322) hx hb dL_isSo_301 (by decide) (fun c_4 => absurd (by decide +kernel) c_4) (fun c_4 => ?_)
                clear c_4
                refine lv_aload_n hx hb dL_isSo_304 rfl (lv_at hl 6 rfl) ?_
                refine lv_iload hx hb dL_isSo_305 (lv_at hl 2 rfl) ?_
                refine lv_iconst (v := nI 1) hx hb dL_isSo_307 (by decide +kernel) ?_
                refine lv_iload hx hb dL_isSo_308 (lv_at hl 1 rfl) ?_
                refine lv_ishl hx hb dL_isSo_310 ?_
                refine lv_iconst (v := (-1)) hx hb dL_isSo_311 (by decide +kernel) ?_
                refine x_dir C hS hD (q_cost (E := E) (base := base) l hfl hI  (p := p) (z := nI 1 <<< (nI f &&& 31)) (bit := -1) hp ⟨rng_p (n := nf) b1 hf, by decide⟩) rfl kX6_cost qw_578 qw_579 qw_577 rfl [] rfl hl.1 (Nat.le_of_ble_eq_true rfl) ⟨(Nat.le_of_ble_eq_true rfl), (Nat.le_of_ble_eq_true rfl)⟩ dL_isSo_312 ⟨by show 1500 + 63 * p + 8 + 11 * f + 2 + 2 + 2 + 2 + 3 ≤ 2000; omega, by show 9000 + 378 * p + 48 + 66 * f + 12 + 12 + 12 + 12 + 18 ≤ 12000; omega⟩ (fun H locs hD hS => ?_)
                refine lv_if_lt (tgt := 322) hx hb dL_isSo_315 (by decide) (fun c_5 => absurd c_5 (nI_pos (by omega))) (fun _ => ?_)
                refine lv_iconst (v := nI 1) hx hb dL_isSo_318 (by decide +kernel) ?_
                refine lv_goto (tgt := 323) hx hb dL_isSo_319 (by decide) ?_
                refine lv_istore_n (lv' := [(1, .int (nI 1)), (7, .int (fBs (fun b => decide (red (KFs sg rc na p b) 16 (nI 1 <<< (nI f &&& 31)) = 0)) 8)), (6, .int (nI f)), (4, .int (nI p)), (3, .int (nI (alN np na sg rc (p + 1)))), (2, .int (nI (lvN na rc 150))), (0, .ref A0)]) hx hb dL_isSo_323 rfl hl (by decide) rfl (fun ls hl => ?_)
                refine lv_iinc (v := nI (f + 1)) (lv' := [(6, .int (nI (f + 1))), (1, .int (nI 1)), (7, .int (fBs (fun b => decide (red (KFs sg rc na p b) 16 (nI 1 <<< (nI f &&& 31)) = 0)) 8)), (4, .int (nI p)), (3, .int (nI (alN np na sg rc (p + 1)))), (2, .int (nI (lvN na rc 150))), (0, .ref A0)]) hx hb dL_isSo_324 hl (k := 2) rfl (nI_1 _) (by decide) rfl (fun ls hl => ?_)
                refine lv_goto (tgt := 236) hx hb dL_isSo_327 (by decide) ?_
                refine W.widen (k := 1500 + 63 * p + 8 + 11 * (f + 1)) (n := 9000 + 378 * p + 48 + 66 * (f + 1)) (by show 1500 + 63 * p + 8 + 11 * f + 2 + 2 + 2 + 2 + 3 ≤ _; omega) (by show 9000 + 378 * p + 48 + 66 * f + 12 + 12 + 12 + 12 + 18 ≤ _; omega) ?_
                exact ihf (by omega) _ _ _ hD hS (lv_sub hl [0, 3, 4, 5, 1, 6] rfl)
            · skip
              refine lv_iload_n hx hb dL_isSo_242 rfl (lv_at hl 4 rfl) ?_
              refine lv_if_eq (tgt := 330) hx hb dL_isSo_243 (by decide) (fun c_6 => absurd c_6 (by decide +kernel)) (fun c_6 => ?_)
              clear c_6
              refine lv_aload_n hx hb dL_isSo_246 rfl (lv_at hl 5 rfl) ?_
              refine lv_iload hx hb dL_isSo_247 (lv_at hl 1 rfl) ?_
              refine lv_iload hx hb dL_isSo_249 (lv_at hl 0 rfl) ?_
              refine x_callH (k := 3) C hS (HR.one (S := (nf, np, na, nw, sg, rc)) (l_finds l hfl (E := E) (base := base) (S := (nf, np, na, nw, sg, rc)) hI (x := nI p) (z := nI f))) hD qw_602 qw_0 ⟨by decide +kernel, by decide +kernel, by decide +kernel⟩ qw_601 qw_600 rfl [] rfl hl.1 (Nat.le_of_ble_eq_true rfl) ⟨(Nat.le_of_ble_eq_true rfl), (Nat.le_of_ble_eq_true rfl)⟩ dL_isSo_251 ⟨by show 1500 + 63 * p + 8 + 11 * f + 2 ≤ 2000; omega, by show 9000 + 378 * p + 48 + 66 * f + 12 ≤ 12000; omega⟩ (fun r H locs hp hS => ?_)
              obtain ⟨rfl, hD⟩ := hp
              rw [fS_finds] at hD
              refine lv_re (y := (-99999999)) (v_finds_n hI (by omega) hf) ?_
              refine lv_istore (lv' := [(7, .int (-99999999)), (6, .int (nI f)), (4, .int (nI p)), (3, .int (nI (alN np na sg rc (p + 1)))), (2, .int (nI (lvN na rc 150))), (1, .int (nI 1)), (0, .ref A0)]) hx hb dL_isSo_254 hl (by decide) rfl (fun ls hl => ?_)
              refine lv_iload hx hb dL_isSo_256 (lv_at hl 0 rfl) ?_
              refine lv_if_lt (tgt := 318) hx hb dL_isSo_258 (by decide) (fun c_7 => ?_) (fun c_7 => absurd (by decide +kernel) c_7)
              clear c_7
              refine lv_iconst (v := nI 1) hx hb dL_isSo_318 (by decide +kernel) ?_
              refine lv_goto (tgt := 323) hx hb dL_isSo_319 (by decide) ?_
              refine lv_istore_n (lv' := [(1, .int (nI 1)), (7, .int (-99999999)), (6, .int (nI f)), (4, .int (nI p)), (3, .int (nI (alN np na sg rc (p + 1)))), (2, .int (nI (lvN na rc 150))), (0, .ref A0)]) hx hb dL_isSo_323 rfl hl (by decide) rfl (fun ls hl => ?_)
              refine lv_iinc (v := nI (f + 1)) (lv' := [(6, .int (nI (f + 1))), (1, .int (nI 1)), (7, .int (-99999999)), (4, .int (nI p)), (3, .int (nI (alN np na sg rc (p + 1)))), (2, .int (nI (lvN na rc 150))), (0, .ref A0)]) hx hb dL_isSo_324 hl (k := 2) rfl (nI_1 _) (by decide) rfl (fun ls hl => ?_)
              refine lv_goto (tgt := 236) hx hb dL_isSo_327 (by decide) ?_
              refine W.widen (k := 1500 + 63 * p + 8 + 11 * (f + 1)) (n := 9000 + 378 * p + 48 + 66 * (f + 1)) (by show 1500 + 63 * p + 8 + 11 * f + 2 ≤ _; omega) (by show 9000 + 378 * p + 48 + 66 * f + 12 ≤ _; omega) ?_
              exact ihf (by omega) _ _ _ hD hS (lv_sub hl [0, 3, 4, 5, 1, 6] rfl)
        refine lv_iload_n hx hb dL_isSo_164 rfl (lv_at hl 3 rfl) ?_
        refine lv_if_eq (tgt := 336) hx hb dL_isSo_165 (by decide) (fun c_8 => absurd c_8 (by decide +kernel)) (fun c_8 => ?_)
        clear c_8
        refine lv_aload_n hx hb dL_isSo_168 rfl (lv_at hl 4 rfl) ?_
        refine lv_iload hx hb dL_isSo_169 (lv_at hl 0 rfl) ?_
        refine x_callH (k := 2) C hS (HR.one (S := (nf, np, na, nw, sg, rc)) (l_spent l hfl (E := E) (base := base) (S := (nf, np, na, nw, sg, rc)) hI (x := nI p))) hD qw_595 qw_0 ⟨by decide +kernel, by decide +kernel, by decide +kernel⟩ qw_594 qw_593 rfl [] rfl hl.1 (Nat.le_of_ble_eq_true rfl) ⟨(Nat.le_of_ble_eq_true rfl), (Nat.le_of_ble_eq_true rfl)⟩ dL_isSo_171 ⟨by show 1500 + 63 * p + 1 ≤ 2000; omega, by show 9000 + 378 * p + 6 ≤ 12000; omega⟩ (fun r H locs hp hS => ?_)
        obtain ⟨rfl, hD⟩ := hp
        rw [fS_spent] at hD
        refine lv_re (y := nI (sC (KCs sg rc na p) 8)) (v_spent hI hp) ?_
        refine lv_istore (lv' := [(5, .int (nI (sC (KCs sg rc na p) 8))), (4, .int (nI p)), (3, .int (nI (alN np na sg rc p))), (2, .int (nI (lvN na rc 150))), (1, .int (nI 1)), (0, .ref A0)]) hx hb dL_isSo_174 hl (by decide) rfl (fun ls hl => ?_)
        refine lv_iload hx hb dL_isSo_176 (lv_at hl 0 rfl) ?_
        refine lv_if_lt (tgt := 330) hx hb dL_isSo_178 (by decide) (fun c_9 => absurd c_9 (nI_pos (by omega))) (fun _ => ?_)
        refine lv_iload_n hx hb dL_isSo_181 rfl (lv_at hl 2 rfl) ?_
        refine lv_aload_n hx hb dL_isSo_182 rfl (lv_at hl 5 rfl) ?_
        refine lv_iload hx hb dL_isSo_183 (lv_at hl 1 rfl) ?_
        refine lv_iconst (v := nI 5) hx hb dL_isSo_185 (by decide +kernel) ?_
        refine x_dir C hS hD (q_count5 (E := E) (base := base) l hfl hI  (p := p) hp) rfl kX6_count qw_643 qw_644 qw_642 rfl [.int (nI (alN np na sg rc p))] rfl hl.1 (Nat.le_of_ble_eq_true rfl) ⟨(Nat.le_of_ble_eq_true rfl), (Nat.le_of_ble_eq_true rfl)⟩ dL_isSo_186 ⟨by show 1500 + 63 * p + 1 + 2 ≤ 2000; omega, by show 9000 + 378 * p + 6 + 12 ≤ 12000; omega⟩ (fun H locs hD hS => ?_)
        refine lv_iadd hx hb dL_isSo_189 ?_
        refine lv_re (nI_add _ _) ?_
        refine lv_istore_n (lv' := [(3, .int (nI (alN np na sg rc p + cSt sg rc p na))), (5, .int (nI (sC (KCs sg rc na p) 8))), (4, .int (nI p)), (2, .int (nI (lvN na rc 150))), (1, .int (nI 1)), (0, .ref A0)]) hx hb dL_isSo_190 rfl hl (by decide) rfl (fun ls hl => ?_)
        refine lv_iload hx hb dL_isSo_191 (lv_at hl 1 rfl) ?_
        refine lv_aload_n hx hb dL_isSo_193 rfl (lv_at hl 5 rfl) ?_
        refine lv_iload hx hb dL_isSo_194 (lv_at hl 2 rfl) ?_
        refine x_dir C hS hD (q_spentAnew (E := E) (base := base) l hfl hI  (p := p) hp) rfl kX6_spentAnew qw_661 qw_662 qw_660 rfl [.int (nI (sC (KCs sg rc na p) 8))] rfl hl.1 (Nat.le_of_ble_eq_true rfl) ⟨(Nat.le_of_ble_eq_true rfl), (Nat.le_of_ble_eq_true rfl)⟩ dL_isSo_196 ⟨by show 1500 + 63 * p + 1 + 2 + 1 ≤ 2000; omega, by show 9000 + 378 * p + 6 + 12 + 6 ≤ 12000; omega⟩ (fun H locs hD hS => ?_)
        refine lv_icmp_ne (tgt := 231) hx hb dL_isSo_199 (by decide) (fun c => absurd rfl c) (fun _ => ?_)
        refine lv_iload hx hb dL_isSo_202 (lv_at hl 1 rfl) ?_
        refine lv_sipush (v := nI 128) hx hb dL_isSo_204 (by decide +kernel) ?_
        refine lv_icmp_gt (tgt := 231) hx hb dL_isSo_207 (by decide) (fun c => absurd ((nI_ltI (by omega) (by omega)).mp c) (by omega)) (fun _ => ?_)
        refine lv_aload_n hx hb dL_isSo_210 rfl (lv_at hl 5 rfl) ?_
        refine lv_iload hx hb dL_isSo_211 (lv_at hl 2 rfl) ?_
        refine lv_iconst (v := nI 5) hx hb dL_isSo_213 (by decide +kernel) ?_
        refine x_dir C hS hD (q_count5 (E := E) (base := base) l hfl hI  (p := p) hp) rfl kX6_count qw_643 qw_644 qw_642 rfl [] rfl hl.1 (Nat.le_of_ble_eq_true rfl) ⟨(Nat.le_of_ble_eq_true rfl), (Nat.le_of_ble_eq_true rfl)⟩ dL_isSo_214 ⟨by show 1500 + 63 * p + 1 + 2 + 1 + 2 ≤ 2000; omega, by show 9000 + 378 * p + 6 + 12 + 6 + 12 ≤ 12000; omega⟩ (fun H locs hD hS => ?_)
        refine lv_aload_n hx hb dL_isSo_217 rfl (lv_at hl 5 rfl) ?_
        refine lv_iload hx hb dL_isSo_218 (lv_at hl 2 rfl) ?_
        refine lv_iconst (v := nI 0) hx hb dL_isSo_220 (by decide +kernel) ?_
        refine x_dir C hS hD (q_count0 (E := E) (base := base) l hfl hI  (p := p) hp) rfl kX6_count qw_643 qw_644 qw_642 rfl [.int (nI (cSt sg rc p na))] rfl hl.1 (Nat.le_of_ble_eq_true rfl) ⟨(Nat.le_of_ble_eq_true rfl), (Nat.le_of_ble_eq_true rfl)⟩ dL_isSo_221 ⟨by show 1500 + 63 * p + 1 + 2 + 1 + 2 + 2 ≤ 2000; omega, by show 9000 + 378 * p + 6 + 12 + 6 + 12 + 12 ≤ 12000; omega⟩ (fun H locs hD hS => ?_)
        refine lv_icmp_gt (tgt := 231) hx hb dL_isSo_224 (by decide) (fun c => absurd (so_cnt hI hJ hp) (Int32.not_le.mpr c)) (fun _ => ?_)
        refine lv_iconst (v := nI 1) hx hb dL_isSo_227 (by decide +kernel) ?_
        refine lv_goto (tgt := 232) hx hb dL_isSo_228 (by decide) ?_
        refine lv_istore_n (lv' := [(1, .int (nI 1)), (3, .int (nI (alN np na sg rc p + cSt sg rc p na))), (5, .int (nI (sC (KCs sg rc na p) 8))), (4, .int (nI p)), (2, .int (nI (lvN na rc 150))), (0, .ref A0)]) hx hb dL_isSo_232 rfl hl (by decide) rfl (fun ls hl => ?_)
        refine lv_iconst (v := nI 0) hx hb dL_isSo_233 (by decide +kernel) ?_
        refine lv_istore (lv' := [(6, .int (nI 0)), (1, .int (nI 1)), (3, .int (nI (alN np na sg rc p + cSt sg rc p na))), (5, .int (nI (sC (KCs sg rc na p) 8))), (4, .int (nI p)), (2, .int (nI (lvN na rc 150))), (0, .ref A0)]) hx hb dL_isSo_234 hl (by decide) rfl (fun ls hl => ?_)
        rw [← ea] at hl
        refine W.widen (k := 1500 + 63 * p + 8 + 11 * 0) (n := 9000 + 378 * p + 48 + 66 * 0) (by show 1500 + 63 * p + 1 + 2 + 1 + 2 + 2 ≤ _; omega) (by show 9000 + 378 * p + 6 + 12 + 6 + 12 + 12 ≤ _; omega) ?_
        exact lp3 0 (Nat.zero_le _) _ _ _ hD hS (lv_sub hl [0, 4, 2, 5, 1, 6] rfl)
      · skip
        have ea : alN np na sg rc (p + 1) = alN np na sg rc p := by show _ + (if p < np then _ else _) = _; rw [if_neg hp]; rfl
        refine lv_iload_n hx hb dL_isSo_164 rfl (lv_at hl 3 rfl) ?_
        refine lv_if_eq (tgt := 336) hx hb dL_isSo_165 (by decide) (fun c_10 => absurd c_10 (by decide +kernel)) (fun c_10 => ?_)
        clear c_10
        refine lv_aload_n hx hb dL_isSo_168 rfl (lv_at hl 4 rfl) ?_
        refine lv_iload hx hb dL_isSo_169 (lv_at hl 0 rfl) ?_
        refine x_callH (k := 2) C hS (HR.one (S := (nf, np, na, nw, sg, rc)) (l_spent l hfl (E := E) (base := base) (S := (nf, np, na, nw, sg, rc)) hI (x := nI p))) hD qw_595 qw_0 ⟨by decide +kernel, by decide +kernel, by decide +kernel⟩ qw_594 qw_593 rfl [] rfl hl.1 (Nat.le_of_ble_eq_true rfl) ⟨(Nat.le_of_ble_eq_true rfl), (Nat.le_of_ble_eq_true rfl)⟩ dL_isSo_171 ⟨by show 1500 + 63 * p + 1 ≤ 2000; omega, by show 9000 + 378 * p + 6 ≤ 12000; omega⟩ (fun r H locs hp hS => ?_)
        obtain ⟨rfl, hD⟩ := hp
        rw [fS_spent] at hD
        refine lv_re (y := (-99999999)) (v_spent_n hI (by omega) hp) ?_
        refine lv_istore (lv' := [(5, .int (-99999999)), (4, .int (nI p)), (3, .int (nI (alN np na sg rc p))), (2, .int (nI (lvN na rc 150))), (1, .int (nI 1)), (0, .ref A0)]) hx hb dL_isSo_174 hl (by decide) rfl (fun ls hl => ?_)
        refine lv_iload hx hb dL_isSo_176 (lv_at hl 0 rfl) ?_
        refine lv_if_lt (tgt := 330) hx hb dL_isSo_178 (by decide) (fun c_11 => ?_) (fun c_11 => absurd (by decide +kernel) c_11)
        clear c_11
        refine lv_iinc (v := nI (p + 1)) (lv' := [(4, .int (nI (p + 1))), (5, .int (-99999999)), (3, .int (nI (alN np na sg rc p))), (2, .int (nI (lvN na rc 150))), (1, .int (nI 1)), (0, .ref A0)]) hx hb dL_isSo_330 hl (k := 1) rfl (nI_1 _) (by decide) rfl (fun ls hl => ?_)
        refine lv_goto (tgt := 157) hx hb dL_isSo_333 (by decide) ?_
        rw [← ea] at hl
        refine W.widen (k := 1500 + 63 * (p + 1)) (n := 9000 + 378 * (p + 1)) (by show 1500 + 63 * p + 1 ≤ _; omega) (by show 9000 + 378 * p + 6 ≤ _; omega) ?_
        exact ihp (by omega) _ _ _ hD hS (lv_sub hl [0, 2, 3, 4, 5] rfl)
  have k154 : ∀ (H : Heap) (locs : List Loc) (ls : Array Slot), SR E base A0 (nf, np, na, nw, sg, rc) H → va_S (xA base) s.heap H locs → lv_has ls 8 [(3, .int (nI 0)), (2, .int (nI (lvN na rc 150))), (1, .int (nI 1)), (0, .ref A0)] → W p9 l e9 ({ frames := 9, cells := 2000, slots := 12000, locals := 151 } : Room) s m9 ([.ref A0] : List Value).toArray below meth c9 H locs (10 * 150) (60 * 150) Q (F0 m9 154 ls []) := by
    intro H locs ls hD hS hl
    refine lv_iconst (v := nI 0) hx hb dL_isSo_154 (by decide +kernel) ?_
    refine lv_istore (lv' := [(4, .int (nI 0)), (3, .int (nI 0)), (2, .int (nI (lvN na rc 150))), (1, .int (nI 1)), (0, .ref A0)]) hx hb dL_isSo_155 hl (by decide) rfl (fun ls hl => ?_)
    refine W.widen (k := 1500 + 63 * 0) (n := 9000 + 378 * 0) (by show 10 * 150 ≤ _; omega) (by show 60 * 150 ≤ _; omega) ?_
    exact lp2 0 (Nat.zero_le _) _ _ _ hD hS (lv_sub hl [0, 1, 2, 3, 4] rfl)
  have lp1 : ∀ (a : Nat), a ≤ 150 → ∀ (H : Heap) (locs : List Loc) (ls : Array Slot), SR E base A0 (nf, np, na, nw, sg, rc) H → va_S (xA base) s.heap H locs → lv_has ls 8 [(4, .int (nI a)), (3, .int (nI 0)), (2, .int (nI (lvN na rc a))), (1, .int (nI 1)), (0, .ref A0)] → W p9 l e9 ({ frames := 9, cells := 2000, slots := 12000, locals := 151 } : Room) s m9 ([.ref A0] : List Value).toArray below meth c9 H locs (10 * a) (60 * a) Q (F0 m9 9 ls []) := by
    refine lp_up ?_
    intro a ha9 ih H locs ls hD hS hl
    refine lv_iload hx hb dL_isSo_9 (lv_at hl 0 rfl) ?_
    refine lv_sipush (v := nI 150) hx hb dL_isSo_11 (by decide +kernel) ?_
    refine lv_icmp_ge (tgt := 154) hx hb dL_isSo_14 (by decide) (fun c => ?_) (fun c => ?_)
    · skip
      replace c := (nI_leI (by omega) (by omega)).mp c
      obtain rfl : a = 150 := by omega
      exact k154 _ _ _ hD hS (lv_sub hl [1, 2, 3, 4] rfl)
    · skip
      replace c := mt (nI_leI (by omega) (by omega)).mpr c
      have ha5 : a < 150 := by omega
      have elv : lvN na rc (a + 1) = lvN na rc a + (if (decide (a < na) && !rc a) = true then 1 else 0) := rfl
      by_cases ha : a < na
      · skip
        rw [decide_eq_true ha] at elv
        obtain ⟨⟨q0, hq0, hwho⟩, -⟩ := hI.2.2.2.2.1 a ha
        cases hr : rc a
        · skip
          rw [hr] at elv
          have el : lvN na rc (a + 1) = lvN na rc a + 1 := elv
          refine lv_iload_n hx hb dL_isSo_17 rfl (lv_at hl 3 rfl) ?_
          refine lv_if_eq (tgt := 154) hx hb dL_isSo_18 (by decide) (fun c_12 => absurd c_12 (by decide +kernel)) (fun c_12 => ?_)
          clear c_12
          refine lv_aload_n hx hb dL_isSo_21 rfl (lv_at hl 4 rfl) ?_
          refine lv_iload hx hb dL_isSo_22 (lv_at hl 0 rfl) ?_
          refine lv_iconst (v := nI 4) hx hb dL_isSo_24 (by decide +kernel) ?_
          refine x_callH (k := 3) C hS (HR.one (S := (nf, np, na, nw, sg, rc)) (l_answer l hfl (E := E) (base := base) (S := (nf, np, na, nw, sg, rc)) hI (x := nI a) (z := nI 4))) hD qw_583 qw_0 ⟨by decide +kernel, by decide +kernel, by decide +kernel⟩ qw_582 qw_581 rfl [] rfl hl.1 (Nat.le_of_ble_eq_true rfl) ⟨(Nat.le_of_ble_eq_true rfl), (Nat.le_of_ble_eq_true rfl)⟩ dL_isSo_25 ⟨by show 10 * a + 1 ≤ 2000; omega, by show 60 * a + 6 ≤ 12000; omega⟩ (fun r H locs hp hS => ?_)
          obtain ⟨rfl, hD⟩ := hp
          rw [fS_answer] at hD
          refine lv_re (y := nI 0) (by rw [v_answer hI ha (by decide)]; show ob (rc a) = _; rw [hr]; rfl) ?_
          refine lv_istore (lv' := [(5, .int (nI 0)), (4, .int (nI a)), (3, .int (nI 0)), (2, .int (nI (lvN na rc a))), (1, .int (nI 1)), (0, .ref A0)]) hx hb dL_isSo_28 hl (by decide) rfl (fun ls hl => ?_)
          refine lv_iload_n hx hb dL_isSo_30 rfl (lv_at hl 3 rfl) ?_
          refine lv_iload hx hb dL_isSo_31 (lv_at hl 0 rfl) ?_
          refine lv_if_ne (tgt := 40) hx hb dL_isSo_33 (by decide) (fun c_13 => absurd (by decide +kernel) c_13) (fun c_13 => ?_)
          clear c_13
          refine lv_iconst (v := nI 1) hx hb dL_isSo_36 (by decide +kernel) ?_
          refine lv_goto (tgt := 41) hx hb dL_isSo_37 (by decide) ?_
          refine lv_iadd hx hb dL_isSo_41 ?_
          refine lv_re (nI_add _ _) ?_
          refine lv_istore_n (lv' := [(2, .int (nI (lvN na rc a + 1))), (5, .int (nI 0)), (4, .int (nI a)), (3, .int (nI 0)), (1, .int (nI 1)), (0, .ref A0)]) hx hb dL_isSo_42 rfl hl (by decide) rfl (fun ls hl => ?_)
          rw [← el] at hl
          refine lv_iload hx hb dL_isSo_43 (lv_at hl 1 rfl) ?_
          refine lv_ldc (v := (-99999999)) hx hb C.hown (C.ws _ qw_289) dL_isSo_45 ?_
          refine lv_icmp_eq (tgt := 142) hx hb dL_isSo_47 (by decide) (fun c => absurd c (nI_T (by omega))) (fun _ => ?_)
          refine lv_iload hx hb dL_isSo_50 (lv_at hl 1 rfl) ?_
          refine lv_if_lt (tgt := 146) hx hb dL_isSo_52 (by decide) (fun c_14 => absurd c_14 (by decide +kernel)) (fun c_14 => ?_)
          clear c_14
          refine lv_iload hx hb dL_isSo_55 (lv_at hl 1 rfl) ?_
          refine lv_iconst (v := nI 1) hx hb dL_isSo_57 (by decide +kernel) ?_
          refine lv_icmp_gt (tgt := 146) hx hb dL_isSo_58 (by decide) (fun c_15 => absurd c_15 (by decide +kernel)) (fun c_15 => ?_)
          clear c_15
          refine lv_aload_n hx hb dL_isSo_61 rfl (lv_at hl 5 rfl) ?_
          refine lv_iload hx hb dL_isSo_62 (lv_at hl 2 rfl) ?_
          refine lv_iconst (v := nI 1) hx hb dL_isSo_64 (by decide +kernel) ?_
          refine x_dir C hS hD (q_answer (E := E) (base := base) l hfl hI  (a := a) (k := 1) ha (by decide)) rfl kX6_answer qw_585 qw_586 qw_584 rfl [] rfl hl.1 (Nat.le_of_ble_eq_true rfl) ⟨(Nat.le_of_ble_eq_true rfl), (Nat.le_of_ble_eq_true rfl)⟩ dL_isSo_65 ⟨by show 10 * a + 1 + 1 ≤ 2000; omega, by show 60 * a + 6 + 6 ≤ 12000; omega⟩ (fun H locs hD hS => ?_)
          refine lv_if_le (tgt := 146) hx hb dL_isSo_68 (by decide) (fun c => absurd (hJ.1 a ha).1 (Int32.not_lt.mpr c)) (fun _ => ?_)
          refine lv_aload_n hx hb dL_isSo_71 rfl (lv_at hl 5 rfl) ?_
          refine lv_iload hx hb dL_isSo_72 (lv_at hl 2 rfl) ?_
          refine lv_iconst (v := nI 2) hx hb dL_isSo_74 (by decide +kernel) ?_
          refine x_dir C hS hD (q_answer (E := E) (base := base) l hfl hI  (a := a) (k := 2) ha (by decide)) rfl kX6_answer qw_585 qw_586 qw_584 rfl [] rfl hl.1 (Nat.le_of_ble_eq_true rfl) ⟨(Nat.le_of_ble_eq_true rfl), (Nat.le_of_ble_eq_true rfl)⟩ dL_isSo_75 ⟨by show 10 * a + 1 + 1 + 1 ≤ 2000; omega, by show 60 * a + 6 + 6 + 6 ≤ 12000; omega⟩ (fun H locs hD hS => ?_)
          refine lv_if_ge (tgt := 97) hx hb dL_isSo_78 (by decide) (fun hbit => ?_) (fun hbit => ?_)
          · skip
            replace hbit := Int32.not_lt.mpr hbit
            refine lv_aload_n hx hb dL_isSo_97 rfl (lv_at hl 5 rfl) ?_
            refine lv_iload hx hb dL_isSo_98 (lv_at hl 2 rfl) ?_
            refine lv_iconst (v := nI 3) hx hb dL_isSo_100 (by decide +kernel) ?_
            refine x_dir C hS hD (q_answer (E := E) (base := base) l hfl hI  (a := a) (k := 3) ha (by decide)) rfl kX6_answer qw_585 qw_586 qw_584 rfl [] rfl hl.1 (Nat.le_of_ble_eq_true rfl) ⟨(Nat.le_of_ble_eq_true rfl), (Nat.le_of_ble_eq_true rfl)⟩ dL_isSo_101 ⟨by show 10 * a + 1 + 1 + 1 + 1 ≤ 2000; omega, by show 60 * a + 6 + 6 + 6 + 6 ≤ 12000; omega⟩ (fun H locs hD hS => ?_)
            refine lv_iconst (v := nI 2) hx hb dL_isSo_104 (by decide +kernel) ?_
            refine lv_icmp_ge (tgt := 146) hx hb dL_isSo_105 (by decide) (fun c => absurd ((hJ.1 a ha).2.2 hbit) (Int32.not_lt.mpr c)) (fun _ => ?_)
            refine lv_iload hx hb dL_isSo_108 (lv_at hl 1 rfl) ?_
            refine lv_iconst (v := nI 1) hx hb dL_isSo_110 (by decide +kernel) ?_
            refine lv_icmp_eq (tgt := 142) hx hb dL_isSo_111 (by decide) (fun c_16 => absurd c_16 (by decide +kernel)) (fun c_16 => ?_)
            clear c_16
            refine lv_aload_n hx hb dL_isSo_114 rfl (lv_at hl 5 rfl) ?_
            refine lv_aload_n hx hb dL_isSo_115 rfl (lv_at hl 5 rfl) ?_
            refine lv_iload hx hb dL_isSo_116 (lv_at hl 2 rfl) ?_
            refine lv_iconst (v := nI 0) hx hb dL_isSo_118 (by decide +kernel) ?_
            refine x_dir C hS hD (q_answer (E := E) (base := base) l hfl hI  (a := a) (k := 0) ha (by decide)) rfl kX6_answer qw_585 qw_586 qw_584 rfl [.ref A0] rfl hl.1 (Nat.le_of_ble_eq_true rfl) ⟨(Nat.le_of_ble_eq_true rfl), (Nat.le_of_ble_eq_true rfl)⟩ dL_isSo_119 ⟨by show 10 * a + 1 + 1 + 1 + 1 + 1 ≤ 2000; omega, by show 60 * a + 6 + 6 + 6 + 6 + 6 ≤ 12000; omega⟩ (fun H locs hD hS => ?_)
            refine lv_re hwho ?_
            refine lv_aload_n hx hb dL_isSo_122 rfl (lv_at hl 5 rfl) ?_
            refine lv_iload hx hb dL_isSo_123 (lv_at hl 2 rfl) ?_
            refine lv_iconst (v := nI 1) hx hb dL_isSo_125 (by decide +kernel) ?_
            refine x_dir C hS hD (q_answer (E := E) (base := base) l hfl hI  (a := a) (k := 1) ha (by decide)) rfl kX6_answer qw_585 qw_586 qw_584 rfl [.int (nI q0), .ref A0] rfl hl.1 (Nat.le_of_ble_eq_true rfl) ⟨(Nat.le_of_ble_eq_true rfl), (Nat.le_of_ble_eq_true rfl)⟩ dL_isSo_126 ⟨by show 10 * a + 1 + 1 + 1 + 1 + 1 + 1 ≤ 2000; omega, by show 60 * a + 6 + 6 + 6 + 6 + 6 + 6 ≤ 12000; omega⟩ (fun H locs hD hS => ?_)
            refine lv_aload_n hx hb dL_isSo_129 rfl (lv_at hl 5 rfl) ?_
            refine lv_iload hx hb dL_isSo_130 (lv_at hl 2 rfl) ?_
            refine lv_iconst (v := nI 2) hx hb dL_isSo_132 (by decide +kernel) ?_
            refine x_dir C hS hD (q_answer (E := E) (base := base) l hfl hI  (a := a) (k := 2) ha (by decide)) rfl kX6_answer qw_585 qw_586 qw_584 rfl [.int (sg 8 a 0), .int (nI q0), .ref A0] rfl hl.1 (Nat.le_of_ble_eq_true rfl) ⟨(Nat.le_of_ble_eq_true rfl), (Nat.le_of_ble_eq_true rfl)⟩ dL_isSo_133 ⟨by show 10 * a + 1 + 1 + 1 + 1 + 1 + 1 + 1 ≤ 2000; omega, by show 60 * a + 6 + 6 + 6 + 6 + 6 + 6 + 6 ≤ 12000; omega⟩ (fun H locs hD hS => ?_)
            refine x_dir C hS hD (q_cost (E := E) (base := base) l hfl hI  (p := q0) (z := sg 8 a 0) (bit := sg 9 a 0) hq0 (so_q hI ha (hJ.1 a ha).1)) rfl kX6_cost qw_578 qw_579 qw_577 rfl [] rfl hl.1 (Nat.le_of_ble_eq_true rfl) ⟨(Nat.le_of_ble_eq_true rfl), (Nat.le_of_ble_eq_true rfl)⟩ dL_isSo_136 ⟨by show 10 * a + 1 + 1 + 1 + 1 + 1 + 1 + 1 + 3 ≤ 2000; omega, by show 60 * a + 6 + 6 + 6 + 6 + 6 + 6 + 6 + 18 ≤ 12000; omega⟩ (fun H locs hD hS => ?_)
            refine lv_if_ne (tgt := 146) hx hb dL_isSo_139 (by decide) (fun c => absurd (show nI (cC (KFs sg rc na q0) (sg 9 a 0) (sg 8 a 0) 8) = 0 by rw [so_cost hI ha hr hwho]; rfl) c) (fun _ => ?_)
            refine lv_iconst (v := nI 1) hx hb dL_isSo_142 (by decide +kernel) ?_
            refine lv_goto (tgt := 147) hx hb dL_isSo_143 (by decide) ?_
            refine lv_istore_n (lv' := [(1, .int (nI 1)), (2, .int (nI (lvN na rc (a + 1)))), (5, .int (nI 0)), (4, .int (nI a)), (3, .int (nI 0)), (0, .ref A0)]) hx hb dL_isSo_147 rfl hl (by decide) rfl (fun ls hl => ?_)
            refine lv_iinc (v := nI (a + 1)) (lv' := [(4, .int (nI (a + 1))), (1, .int (nI 1)), (2, .int (nI (lvN na rc (a + 1)))), (5, .int (nI 0)), (3, .int (nI 0)), (0, .ref A0)]) hx hb dL_isSo_148 hl (k := 3) rfl (nI_1 _) (by decide) rfl (fun ls hl => ?_)
            refine lv_goto (tgt := 9) hx hb dL_isSo_151 (by decide) ?_
            refine W.widen (k := 10 * (a + 1)) (n := 60 * (a + 1)) (by show 10 * a + 1 + 1 + 1 + 1 + 1 + 1 + 1 + 3 ≤ _; omega) (by show 60 * a + 6 + 6 + 6 + 6 + 6 + 6 + 6 + 18 ≤ _; omega) ?_
            exact ih (by omega) _ _ _ hD hS (lv_sub hl [0, 4, 2, 1, 5] rfl)
          · skip
            replace hbit := Int32.not_le.mp hbit
            refine lv_aload_n hx hb dL_isSo_81 rfl (lv_at hl 5 rfl) ?_
            refine lv_iload hx hb dL_isSo_82 (lv_at hl 2 rfl) ?_
            refine lv_iconst (v := nI 3) hx hb dL_isSo_84 (by decide +kernel) ?_
            refine x_dir C hS hD (q_answer (E := E) (base := base) l hfl hI  (a := a) (k := 3) ha (by decide)) rfl kX6_answer qw_585 qw_586 qw_584 rfl [] rfl hl.1 (Nat.le_of_ble_eq_true rfl) ⟨(Nat.le_of_ble_eq_true rfl), (Nat.le_of_ble_eq_true rfl)⟩ dL_isSo_85 ⟨by show 10 * a + 1 + 1 + 1 + 1 ≤ 2000; omega, by show 60 * a + 6 + 6 + 6 + 6 ≤ 12000; omega⟩ (fun H locs hD hS => ?_)
            refine lv_sipush (v := nI 256) hx hb dL_isSo_88 (by decide +kernel) ?_
            refine lv_icmp_ge (tgt := 146) hx hb dL_isSo_91 (by decide) (fun c => absurd ((hJ.1 a ha).2.1 hbit) (Int32.not_lt.mpr c)) (fun _ => ?_)
            refine lv_goto (tgt := 108) hx hb dL_isSo_94 (by decide) ?_
            refine lv_iload hx hb dL_isSo_108 (lv_at hl 1 rfl) ?_
            refine lv_iconst (v := nI 1) hx hb dL_isSo_110 (by decide +kernel) ?_
            refine lv_icmp_eq (tgt := 142) hx hb dL_isSo_111 (by decide) (fun c_17 => absurd c_17 (by decide +kernel)) (fun c_17 => ?_)
            clear c_17
            refine lv_aload_n hx hb dL_isSo_114 rfl (lv_at hl 5 rfl) ?_
            refine lv_aload_n hx hb dL_isSo_115 rfl (lv_at hl 5 rfl) ?_
            refine lv_iload hx hb dL_isSo_116 (lv_at hl 2 rfl) ?_
            refine lv_iconst (v := nI 0) hx hb dL_isSo_118 (by decide +kernel) ?_
            refine x_dir C hS hD (q_answer (E := E) (base := base) l hfl hI  (a := a) (k := 0) ha (by decide)) rfl kX6_answer qw_585 qw_586 qw_584 rfl [.ref A0] rfl hl.1 (Nat.le_of_ble_eq_true rfl) ⟨(Nat.le_of_ble_eq_true rfl), (Nat.le_of_ble_eq_true rfl)⟩ dL_isSo_119 ⟨by show 10 * a + 1 + 1 + 1 + 1 + 1 ≤ 2000; omega, by show 60 * a + 6 + 6 + 6 + 6 + 6 ≤ 12000; omega⟩ (fun H locs hD hS => ?_)
            refine lv_re hwho ?_
            refine lv_aload_n hx hb dL_isSo_122 rfl (lv_at hl 5 rfl) ?_
            refine lv_iload hx hb dL_isSo_123 (lv_at hl 2 rfl) ?_
            refine lv_iconst (v := nI 1) hx hb dL_isSo_125 (by decide +kernel) ?_
            refine x_dir C hS hD (q_answer (E := E) (base := base) l hfl hI  (a := a) (k := 1) ha (by decide)) rfl kX6_answer qw_585 qw_586 qw_584 rfl [.int (nI q0), .ref A0] rfl hl.1 (Nat.le_of_ble_eq_true rfl) ⟨(Nat.le_of_ble_eq_true rfl), (Nat.le_of_ble_eq_true rfl)⟩ dL_isSo_126 ⟨by show 10 * a + 1 + 1 + 1 + 1 + 1 + 1 ≤ 2000; omega, by show 60 * a + 6 + 6 + 6 + 6 + 6 + 6 ≤ 12000; omega⟩ (fun H locs hD hS => ?_)
            refine lv_aload_n hx hb dL_isSo_129 rfl (lv_at hl 5 rfl) ?_
            refine lv_iload hx hb dL_isSo_130 (lv_at hl 2 rfl) ?_
            refine lv_iconst (v := nI 2) hx hb dL_isSo_132 (by decide +kernel) ?_
            refine x_dir C hS hD (q_answer (E := E) (base := base) l hfl hI  (a := a) (k := 2) ha (by decide)) rfl kX6_answer qw_585 qw_586 qw_584 rfl [.int (sg 8 a 0), .int (nI q0), .ref A0] rfl hl.1 (Nat.le_of_ble_eq_true rfl) ⟨(Nat.le_of_ble_eq_true rfl), (Nat.le_of_ble_eq_true rfl)⟩ dL_isSo_133 ⟨by show 10 * a + 1 + 1 + 1 + 1 + 1 + 1 + 1 ≤ 2000; omega, by show 60 * a + 6 + 6 + 6 + 6 + 6 + 6 + 6 ≤ 12000; omega⟩ (fun H locs hD hS => ?_)
            refine x_dir C hS hD (q_cost (E := E) (base := base) l hfl hI  (p := q0) (z := sg 8 a 0) (bit := sg 9 a 0) hq0 (so_q hI ha (hJ.1 a ha).1)) rfl kX6_cost qw_578 qw_579 qw_577 rfl [] rfl hl.1 (Nat.le_of_ble_eq_true rfl) ⟨(Nat.le_of_ble_eq_true rfl), (Nat.le_of_ble_eq_true rfl)⟩ dL_isSo_136 ⟨by show 10 * a + 1 + 1 + 1 + 1 + 1 + 1 + 1 + 3 ≤ 2000; omega, by show 60 * a + 6 + 6 + 6 + 6 + 6 + 6 + 6 + 18 ≤ 12000; omega⟩ (fun H locs hD hS => ?_)
            refine lv_if_ne (tgt := 146) hx hb dL_isSo_139 (by decide) (fun c => absurd (show nI (cC (KFs sg rc na q0) (sg 9 a 0) (sg 8 a 0) 8) = 0 by rw [so_cost hI ha hr hwho]; rfl) c) (fun _ => ?_)
            refine lv_iconst (v := nI 1) hx hb dL_isSo_142 (by decide +kernel) ?_
            refine lv_goto (tgt := 147) hx hb dL_isSo_143 (by decide) ?_
            refine lv_istore_n (lv' := [(1, .int (nI 1)), (2, .int (nI (lvN na rc (a + 1)))), (5, .int (nI 0)), (4, .int (nI a)), (3, .int (nI 0)), (0, .ref A0)]) hx hb dL_isSo_147 rfl hl (by decide) rfl (fun ls hl => ?_)
            refine lv_iinc (v := nI (a + 1)) (lv' := [(4, .int (nI (a + 1))), (1, .int (nI 1)), (2, .int (nI (lvN na rc (a + 1)))), (5, .int (nI 0)), (3, .int (nI 0)), (0, .ref A0)]) hx hb dL_isSo_148 hl (k := 3) rfl (nI_1 _) (by decide) rfl (fun ls hl => ?_)
            refine lv_goto (tgt := 9) hx hb dL_isSo_151 (by decide) ?_
            refine W.widen (k := 10 * (a + 1)) (n := 60 * (a + 1)) (by show 10 * a + 1 + 1 + 1 + 1 + 1 + 1 + 1 + 3 ≤ _; omega) (by show 60 * a + 6 + 6 + 6 + 6 + 6 + 6 + 6 + 18 ≤ _; omega) ?_
            exact ih (by omega) _ _ _ hD hS (lv_sub hl [0, 4, 2, 1, 5] rfl)
        · skip
          rw [hr] at elv
          have el : lvN na rc (a + 1) = lvN na rc a + 0 := elv
          refine lv_iload_n hx hb dL_isSo_17 rfl (lv_at hl 3 rfl) ?_
          refine lv_if_eq (tgt := 154) hx hb dL_isSo_18 (by decide) (fun c_18 => absurd c_18 (by decide +kernel)) (fun c_18 => ?_)
          clear c_18
          refine lv_aload_n hx hb dL_isSo_21 rfl (lv_at hl 4 rfl) ?_
          refine lv_iload hx hb dL_isSo_22 (lv_at hl 0 rfl) ?_
          refine lv_iconst (v := nI 4) hx hb dL_isSo_24 (by decide +kernel) ?_
          refine x_callH (k := 3) C hS (HR.one (S := (nf, np, na, nw, sg, rc)) (l_answer l hfl (E := E) (base := base) (S := (nf, np, na, nw, sg, rc)) hI (x := nI a) (z := nI 4))) hD qw_583 qw_0 ⟨by decide +kernel, by decide +kernel, by decide +kernel⟩ qw_582 qw_581 rfl [] rfl hl.1 (Nat.le_of_ble_eq_true rfl) ⟨(Nat.le_of_ble_eq_true rfl), (Nat.le_of_ble_eq_true rfl)⟩ dL_isSo_25 ⟨by show 10 * a + 1 ≤ 2000; omega, by show 60 * a + 6 ≤ 12000; omega⟩ (fun r H locs hp hS => ?_)
          obtain ⟨rfl, hD⟩ := hp
          rw [fS_answer] at hD
          refine lv_re (y := nI 1) (by rw [v_answer hI ha (by decide)]; show ob (rc a) = _; rw [hr]; rfl) ?_
          refine lv_istore (lv' := [(5, .int (nI 1)), (4, .int (nI a)), (3, .int (nI 0)), (2, .int (nI (lvN na rc a))), (1, .int (nI 1)), (0, .ref A0)]) hx hb dL_isSo_28 hl (by decide) rfl (fun ls hl => ?_)
          refine lv_iload_n hx hb dL_isSo_30 rfl (lv_at hl 3 rfl) ?_
          refine lv_iload hx hb dL_isSo_31 (lv_at hl 0 rfl) ?_
          refine lv_if_ne (tgt := 40) hx hb dL_isSo_33 (by decide) (fun c_19 => ?_) (fun c_19 => absurd c_19 (by decide +kernel))
          clear c_19
          refine lv_iconst (v := nI 0) hx hb dL_isSo_40 (by decide +kernel) ?_
          refine lv_iadd hx hb dL_isSo_41 ?_
          refine lv_re (nI_add _ _) ?_
          refine lv_istore_n (lv' := [(2, .int (nI (lvN na rc a + 0))), (5, .int (nI 1)), (4, .int (nI a)), (3, .int (nI 0)), (1, .int (nI 1)), (0, .ref A0)]) hx hb dL_isSo_42 rfl hl (by decide) rfl (fun ls hl => ?_)
          rw [← el] at hl
          refine lv_iload hx hb dL_isSo_43 (lv_at hl 1 rfl) ?_
          refine lv_ldc (v := (-99999999)) hx hb C.hown (C.ws _ qw_289) dL_isSo_45 ?_
          refine lv_icmp_eq (tgt := 142) hx hb dL_isSo_47 (by decide) (fun c => absurd c (nI_T (by omega))) (fun _ => ?_)
          refine lv_iload hx hb dL_isSo_50 (lv_at hl 1 rfl) ?_
          refine lv_if_lt (tgt := 146) hx hb dL_isSo_52 (by decide) (fun c_20 => absurd c_20 (by decide +kernel)) (fun c_20 => ?_)
          clear c_20
          refine lv_iload hx hb dL_isSo_55 (lv_at hl 1 rfl) ?_
          refine lv_iconst (v := nI 1) hx hb dL_isSo_57 (by decide +kernel) ?_
          refine lv_icmp_gt (tgt := 146) hx hb dL_isSo_58 (by decide) (fun c_21 => absurd c_21 (by decide +kernel)) (fun c_21 => ?_)
          clear c_21
          refine lv_aload_n hx hb dL_isSo_61 rfl (lv_at hl 5 rfl) ?_
          refine lv_iload hx hb dL_isSo_62 (lv_at hl 2 rfl) ?_
          refine lv_iconst (v := nI 1) hx hb dL_isSo_64 (by decide +kernel) ?_
          refine x_dir C hS hD (q_answer (E := E) (base := base) l hfl hI  (a := a) (k := 1) ha (by decide)) rfl kX6_answer qw_585 qw_586 qw_584 rfl [] rfl hl.1 (Nat.le_of_ble_eq_true rfl) ⟨(Nat.le_of_ble_eq_true rfl), (Nat.le_of_ble_eq_true rfl)⟩ dL_isSo_65 ⟨by show 10 * a + 1 + 1 ≤ 2000; omega, by show 60 * a + 6 + 6 ≤ 12000; omega⟩ (fun H locs hD hS => ?_)
          refine lv_if_le (tgt := 146) hx hb dL_isSo_68 (by decide) (fun c => absurd (hJ.1 a ha).1 (Int32.not_lt.mpr c)) (fun _ => ?_)
          refine lv_aload_n hx hb dL_isSo_71 rfl (lv_at hl 5 rfl) ?_
          refine lv_iload hx hb dL_isSo_72 (lv_at hl 2 rfl) ?_
          refine lv_iconst (v := nI 2) hx hb dL_isSo_74 (by decide +kernel) ?_
          refine x_dir C hS hD (q_answer (E := E) (base := base) l hfl hI  (a := a) (k := 2) ha (by decide)) rfl kX6_answer qw_585 qw_586 qw_584 rfl [] rfl hl.1 (Nat.le_of_ble_eq_true rfl) ⟨(Nat.le_of_ble_eq_true rfl), (Nat.le_of_ble_eq_true rfl)⟩ dL_isSo_75 ⟨by show 10 * a + 1 + 1 + 1 ≤ 2000; omega, by show 60 * a + 6 + 6 + 6 ≤ 12000; omega⟩ (fun H locs hD hS => ?_)
          refine lv_if_ge (tgt := 97) hx hb dL_isSo_78 (by decide) (fun hbit => ?_) (fun hbit => ?_)
          · skip
            replace hbit := Int32.not_lt.mpr hbit
            refine lv_aload_n hx hb dL_isSo_97 rfl (lv_at hl 5 rfl) ?_
            refine lv_iload hx hb dL_isSo_98 (lv_at hl 2 rfl) ?_
            refine lv_iconst (v := nI 3) hx hb dL_isSo_100 (by decide +kernel) ?_
            refine x_dir C hS hD (q_answer (E := E) (base := base) l hfl hI  (a := a) (k := 3) ha (by decide)) rfl kX6_answer qw_585 qw_586 qw_584 rfl [] rfl hl.1 (Nat.le_of_ble_eq_true rfl) ⟨(Nat.le_of_ble_eq_true rfl), (Nat.le_of_ble_eq_true rfl)⟩ dL_isSo_101 ⟨by show 10 * a + 1 + 1 + 1 + 1 ≤ 2000; omega, by show 60 * a + 6 + 6 + 6 + 6 ≤ 12000; omega⟩ (fun H locs hD hS => ?_)
            refine lv_iconst (v := nI 2) hx hb dL_isSo_104 (by decide +kernel) ?_
            refine lv_icmp_ge (tgt := 146) hx hb dL_isSo_105 (by decide) (fun c => absurd ((hJ.1 a ha).2.2 hbit) (Int32.not_lt.mpr c)) (fun _ => ?_)
            refine lv_iload hx hb dL_isSo_108 (lv_at hl 1 rfl) ?_
            refine lv_iconst (v := nI 1) hx hb dL_isSo_110 (by decide +kernel) ?_
            refine lv_icmp_eq (tgt := 142) hx hb dL_isSo_111 (by decide) (fun _ => ?_) (fun c => absurd rfl c)
            refine lv_iconst (v := nI 1) hx hb dL_isSo_142 (by decide +kernel) ?_
            refine lv_goto (tgt := 147) hx hb dL_isSo_143 (by decide) ?_
            refine lv_istore_n (lv' := [(1, .int (nI 1)), (2, .int (nI (lvN na rc (a + 1)))), (5, .int (nI 1)), (4, .int (nI a)), (3, .int (nI 0)), (0, .ref A0)]) hx hb dL_isSo_147 rfl hl (by decide) rfl (fun ls hl => ?_)
            refine lv_iinc (v := nI (a + 1)) (lv' := [(4, .int (nI (a + 1))), (1, .int (nI 1)), (2, .int (nI (lvN na rc (a + 1)))), (5, .int (nI 1)), (3, .int (nI 0)), (0, .ref A0)]) hx hb dL_isSo_148 hl (k := 3) rfl (nI_1 _) (by decide) rfl (fun ls hl => ?_)
            refine lv_goto (tgt := 9) hx hb dL_isSo_151 (by decide) ?_
            refine W.widen (k := 10 * (a + 1)) (n := 60 * (a + 1)) (by show 10 * a + 1 + 1 + 1 + 1 ≤ _; omega) (by show 60 * a + 6 + 6 + 6 + 6 ≤ _; omega) ?_
            exact ih (by omega) _ _ _ hD hS (lv_sub hl [0, 4, 2, 1, 5] rfl)
          · skip
            replace hbit := Int32.not_le.mp hbit
            refine lv_aload_n hx hb dL_isSo_81 rfl (lv_at hl 5 rfl) ?_
            refine lv_iload hx hb dL_isSo_82 (lv_at hl 2 rfl) ?_
            refine lv_iconst (v := nI 3) hx hb dL_isSo_84 (by decide +kernel) ?_
            refine x_dir C hS hD (q_answer (E := E) (base := base) l hfl hI  (a := a) (k := 3) ha (by decide)) rfl kX6_answer qw_585 qw_586 qw_584 rfl [] rfl hl.1 (Nat.le_of_ble_eq_true rfl) ⟨(Nat.le_of_ble_eq_true rfl), (Nat.le_of_ble_eq_true rfl)⟩ dL_isSo_85 ⟨by show 10 * a + 1 + 1 + 1 + 1 ≤ 2000; omega, by show 60 * a + 6 + 6 + 6 + 6 ≤ 12000; omega⟩ (fun H locs hD hS => ?_)
            refine lv_sipush (v := nI 256) hx hb dL_isSo_88 (by decide +kernel) ?_
            refine lv_icmp_ge (tgt := 146) hx hb dL_isSo_91 (by decide) (fun c => absurd ((hJ.1 a ha).2.1 hbit) (Int32.not_lt.mpr c)) (fun _ => ?_)
            refine lv_goto (tgt := 108) hx hb dL_isSo_94 (by decide) ?_
            refine lv_iload hx hb dL_isSo_108 (lv_at hl 1 rfl) ?_
            refine lv_iconst (v := nI 1) hx hb dL_isSo_110 (by decide +kernel) ?_
            refine lv_icmp_eq (tgt := 142) hx hb dL_isSo_111 (by decide) (fun _ => ?_) (fun c => absurd rfl c)
            refine lv_iconst (v := nI 1) hx hb dL_isSo_142 (by decide +kernel) ?_
            refine lv_goto (tgt := 147) hx hb dL_isSo_143 (by decide) ?_
            refine lv_istore_n (lv' := [(1, .int (nI 1)), (2, .int (nI (lvN na rc (a + 1)))), (5, .int (nI 1)), (4, .int (nI a)), (3, .int (nI 0)), (0, .ref A0)]) hx hb dL_isSo_147 rfl hl (by decide) rfl (fun ls hl => ?_)
            refine lv_iinc (v := nI (a + 1)) (lv' := [(4, .int (nI (a + 1))), (1, .int (nI 1)), (2, .int (nI (lvN na rc (a + 1)))), (5, .int (nI 1)), (3, .int (nI 0)), (0, .ref A0)]) hx hb dL_isSo_148 hl (k := 3) rfl (nI_1 _) (by decide) rfl (fun ls hl => ?_)
            refine lv_goto (tgt := 9) hx hb dL_isSo_151 (by decide) ?_
            refine W.widen (k := 10 * (a + 1)) (n := 60 * (a + 1)) (by show 10 * a + 1 + 1 + 1 + 1 ≤ _; omega) (by show 60 * a + 6 + 6 + 6 + 6 ≤ _; omega) ?_
            exact ih (by omega) _ _ _ hD hS (lv_sub hl [0, 4, 2, 1, 5] rfl)
      · skip
        rw [decide_eq_false ha] at elv
        have el : lvN na rc (a + 1) = lvN na rc a + 0 := elv
        refine lv_iload_n hx hb dL_isSo_17 rfl (lv_at hl 3 rfl) ?_
        refine lv_if_eq (tgt := 154) hx hb dL_isSo_18 (by decide) (fun c_22 => absurd c_22 (by decide +kernel)) (fun c_22 => ?_)
        clear c_22
        refine lv_aload_n hx hb dL_isSo_21 rfl (lv_at hl 4 rfl) ?_
        refine lv_iload hx hb dL_isSo_22 (lv_at hl 0 rfl) ?_
        refine lv_iconst (v := nI 4) hx hb dL_isSo_24 (by decide +kernel) ?_
        refine x_callH (k := 3) C hS (HR.one (S := (nf, np, na, nw, sg, rc)) (l_answer l hfl (E := E) (base := base) (S := (nf, np, na, nw, sg, rc)) hI (x := nI a) (z := nI 4))) hD qw_583 qw_0 ⟨by decide +kernel, by decide +kernel, by decide +kernel⟩ qw_582 qw_581 rfl [] rfl hl.1 (Nat.le_of_ble_eq_true rfl) ⟨(Nat.le_of_ble_eq_true rfl), (Nat.le_of_ble_eq_true rfl)⟩ dL_isSo_25 ⟨by show 10 * a + 1 ≤ 2000; omega, by show 60 * a + 6 ≤ 12000; omega⟩ (fun r H locs hp hS => ?_)
        obtain ⟨rfl, hD⟩ := hp
        rw [fS_answer] at hD
        refine lv_re (y := (-99999999)) (v_answer_n hI (by omega) ha) ?_
        refine lv_istore (lv' := [(5, .int (-99999999)), (4, .int (nI a)), (3, .int (nI 0)), (2, .int (nI (lvN na rc a))), (1, .int (nI 1)), (0, .ref A0)]) hx hb dL_isSo_28 hl (by decide) rfl (fun ls hl => ?_)
        refine lv_iload_n hx hb dL_isSo_30 rfl (lv_at hl 3 rfl) ?_
        refine lv_iload hx hb dL_isSo_31 (lv_at hl 0 rfl) ?_
        refine lv_if_ne (tgt := 40) hx hb dL_isSo_33 (by decide) (fun c_23 => ?_) (fun c_23 => absurd c_23 (by decide +kernel))
        clear c_23
        refine lv_iconst (v := nI 0) hx hb dL_isSo_40 (by decide +kernel) ?_
        refine lv_iadd hx hb dL_isSo_41 ?_
        refine lv_re (nI_add _ _) ?_
        refine lv_istore_n (lv' := [(2, .int (nI (lvN na rc a + 0))), (5, .int (-99999999)), (4, .int (nI a)), (3, .int (nI 0)), (1, .int (nI 1)), (0, .ref A0)]) hx hb dL_isSo_42 rfl hl (by decide) rfl (fun ls hl => ?_)
        rw [← el] at hl
        refine lv_iload hx hb dL_isSo_43 (lv_at hl 1 rfl) ?_
        refine lv_ldc (v := (-99999999)) hx hb C.hown (C.ws _ qw_289) dL_isSo_45 ?_
        refine lv_icmp_eq (tgt := 142) hx hb dL_isSo_47 (by decide) (fun _ => ?_) (fun c => absurd rfl c)
        refine lv_iconst (v := nI 1) hx hb dL_isSo_142 (by decide +kernel) ?_
        refine lv_goto (tgt := 147) hx hb dL_isSo_143 (by decide) ?_
        refine lv_istore_n (lv' := [(1, .int (nI 1)), (2, .int (nI (lvN na rc (a + 1)))), (5, .int (-99999999)), (4, .int (nI a)), (3, .int (nI 0)), (0, .ref A0)]) hx hb dL_isSo_147 rfl hl (by decide) rfl (fun ls hl => ?_)
        refine lv_iinc (v := nI (a + 1)) (lv' := [(4, .int (nI (a + 1))), (1, .int (nI 1)), (2, .int (nI (lvN na rc (a + 1)))), (5, .int (-99999999)), (3, .int (nI 0)), (0, .ref A0)]) hx hb dL_isSo_148 hl (k := 3) rfl (nI_1 _) (by decide) rfl (fun ls hl => ?_)
        refine lv_goto (tgt := 9) hx hb dL_isSo_151 (by decide) ?_
        refine W.widen (k := 10 * (a + 1)) (n := 60 * (a + 1)) (by show 10 * a + 1 ≤ _; omega) (by show 60 * a + 6 ≤ _; omega) ?_
        exact ih (by omega) _ _ _ hD hS (lv_sub hl [0, 4, 2, 1, 5] rfl)
  refine lv_iconst (v := nI 1) hx hb dL_isSo_0 (by decide +kernel) ?_
  refine lv_istore_n (lv' := [(1, .int (nI 1)), (0, .ref A0)]) hx hb dL_isSo_1 rfl hl (by decide) rfl (fun ls hl => ?_)
  refine lv_iconst (v := nI 0) hx hb dL_isSo_2 (by decide +kernel) ?_
  refine lv_istore_n (lv' := [(2, .int (nI 0)), (1, .int (nI 1)), (0, .ref A0)]) hx hb dL_isSo_3 rfl hl (by decide) rfl (fun ls hl => ?_)
  refine lv_iconst (v := nI 0) hx hb dL_isSo_4 (by decide +kernel) ?_
  refine lv_istore_n (lv' := [(3, .int (nI 0)), (2, .int (nI 0)), (1, .int (nI 1)), (0, .ref A0)]) hx hb dL_isSo_5 rfl hl (by decide) rfl (fun ls hl => ?_)
  refine lv_iconst (v := nI 0) hx hb dL_isSo_6 (by decide +kernel) ?_
  refine lv_istore (lv' := [(4, .int (nI 0)), (3, .int (nI 0)), (2, .int (nI 0)), (1, .int (nI 1)), (0, .ref A0)]) hx hb dL_isSo_7 hl (by decide) rfl (fun ls hl => ?_)
  refine W.widen (k := 10 * 0) (n := 60 * 0) (by show 0 ≤ _; omega) (by show 0 ≤ _; omega) ?_
  exact lp1 0 (Nat.zero_le _) _ _ _ hD hS (lv_sub hl [0, 1, 2, 3, 4] rfl)
