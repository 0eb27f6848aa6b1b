set_option maxHeartbeats 4000000 in
set_option maxRecDepth 100000 in
theorem l_seal (l : Launch) (hfl : l.stackTraces = false) {E : xE} {base : Nat} {S : AS} (hI : IV S) {x y : Int32} : HR l yL_seal cL_seal 4 (some (.int)) [(0, 7, 8, 23), (0, 7, 12, 14)] ({ frames := 9, cells := 2, slots := 12, locals := 147 } : Room) E base [.int x, .int y] S (f_seal S x y).1 (f_seal S x y).2 := by
  intro al w hR
  obtain ⟨nf, np, na, nw, sg, rc⟩ := S
  have hR0 := hR
  replace hR : RM E al w nf np na nw sg rc := hR
  replace hI : INV nf np na nw sg rc := hI
  have b1 := hI.1; have b2 := hI.2.1; have b3 := hI.2.2.1
  refine xMetH.of (by decide +kernel) "DataroomLaw" rfl (Nat.le_of_ble_eq_true rfl) ?_
  intro p9 e9 s m9 below meth c9 ls C het hP hS hl
  have hx := C.hx
  have hb := C.hb
  have hH := hP
  have hX := hR.1
  have hl : lv_has ls 4 [(0, .ref (al (0, 0, 0))), (1, .int x), (2, .int y)] := hl
  obtain ⟨post, hpost⟩ : ∃ zz9 : Option Value → Heap → Prop, zz9 = (fun r H => r = some (.int (f_seal (nf, np, na, nw, sg, rc) x y).1) ∧ PS E base al w (f_seal (nf, np, na, nw, sg, rc) x y).2 H) := ⟨_, rfl⟩
  obtain ⟨px, hpx⟩ : ∃ zz9 : String → Heap → Prop, zz9 = (fun _ _ => False) := ⟨_, rfl⟩
  rw [← hpost, ← hpx]
  generalize hQ : (vx_MQ below (xQ base post) (xX base px) ([.ref (al (0, 0, 0)), .int x, .int y] : List Value).toArray s 2 12 (xA base)) = Q
  refine lv_aload_n hx hb dL_seal_0 rfl (lv_at hl 0 rfl) ?_
  refine lv_iload_n hx hb dL_seal_1 rfl (lv_at hl 1 rfl) ?_
  refine lv_iload_n hx hb dL_seal_2 rfl (lv_at hl 2 rfl) ?_
  refine x_thrV C hH hS (ci := 7) (t := (0, 0, 0)) hX rfl rfl (c_seal l hfl (E := E) (base := base) hR hI (x := x) (y := y)) hH kX6_seal qw_465 qw_466 qw_464  rfl [] rfl hl.1 (Nat.le_of_ble_eq_true rfl) ⟨Nat.le_of_ble_eq_true rfl, Nat.le_of_ble_eq_true rfl⟩ dL_seal_3 ⟨Nat.le_of_ble_eq_true rfl, Nat.le_of_ble_eq_true rfl⟩ (fun X ce q9 H locs hp_1 hS hce hcv hcl => ?_) (fun r_2 H locs hp_1 hS => ?_)
  · skip
    obtain ⟨hcs, hH⟩ := hp_1
    rcases hcs with ⟨rfl, h1⟩ | ⟨rfl, h1, h2⟩
    · skip
      refine vx_catch C.hown [] ⟨0, 7, 8, 23⟩ [⟨0, 7, 12, 14⟩] (het.trans rfl) (fun z hz => by cases hz) (by decide) (by decide) (C.ws _ qw_293) ((C.st.nb nw_308).use rfl) hce hcv hcl ?_
      refine lv_astore_n (lv' := [(3, .ref q9), (0, .ref (al (0, 0, 0))), (1, .int x), (2, .int y)]) hx hb dL_seal_8 rfl hl (by decide) rfl (fun ls hl => ?_)
      refine lv_ldc (v := (-99999999)) hx hb C.hown (C.ws _ qw_289) dL_seal_9 ?_
      rw [← hQ]
      refine vx_ret (x_reti C rfl hS (Nat.le_of_ble_eq_true rfl) (Nat.le_of_ble_eq_true rfl) dL_seal_11 ?_)
      rw [hpost]
      exact fin_no (fun q => h1 q.1) hH hR0
    · skip
      refine vx_catch C.hown [⟨0, 7, 8, 23⟩] ⟨0, 7, 12, 14⟩ [] (het.trans rfl) (List.forall_mem_cons.mpr ⟨Or.inr ⟨by decide, _, C.ws _ qw_293, C.st.2.2.2.1 _ (List.mem_of_getElem? (i := 0) rfl)⟩, fun _ h => by cases h⟩) (by decide) (by decide) (C.ws _ qw_119) ((C.st.nb nw_130).use rfl) hce hcv hcl ?_
      refine lv_astore_n (lv' := [(3, .ref q9), (0, .ref (al (0, 0, 0))), (1, .int x), (2, .int y)]) hx hb dL_seal_12 rfl hl (by decide) rfl (fun ls hl => ?_)
      refine lv_ldc (v := (-99999999)) hx hb C.hown (C.ws _ qw_289) dL_seal_13 ?_
      rw [← hQ]
      refine vx_ret (x_reti C rfl hS (Nat.le_of_ble_eq_true rfl) (Nat.le_of_ble_eq_true rfl) dL_seal_15 ?_)
      rw [hpost]
      exact fin_no (fun q => h2 q.2) hH hR0
  · skip
    obtain ⟨f, hf, rfl, h1, rfl, hH⟩ := hp_1
    have e1 : cl (nI f) = f := cl_nI (by omega)
    refine lv_iconst (v := nI 0) hx hb dL_seal_6 (by decide +kernel) ?_
    rw [← hQ]
    refine vx_ret (x_reti C rfl hS (Nat.le_of_ble_eq_true rfl) (Nat.le_of_ble_eq_true rfl) dL_seal_7 ?_)
    rw [hpost]
    exact fin_ok ⟨⟨f, hf, rfl⟩, h1⟩ rfl (by show PS E base al w (g_seal (nf, np, na, nw, sg, rc) (nI f) y).2 H; unfold g_seal; rw [e1]; exact hH)

set_option maxHeartbeats 4000000 in
set_option maxRecDepth 100000 in
theorem l_budget (l : Launch) (hfl : l.stackTraces = false) {E : xE} {base : Nat} {S : AS} (hI : IV S) {x y : Int32} : HR l yL_budget cL_budget 4 (some (.int)) [(0, 6, 7, 23), (0, 6, 11, 14)] ({ frames := 8, cells := 2, slots := 12, locals := 128 } : Room) E base [.int x, .int y] S (f_budget S x y).1 (f_budget S x y).2 := by
  intro al w hR
  obtain ⟨nf, np, na, nw, sg, rc⟩ := S
  have hR0 := hR
  replace hR : RM E al w nf np na nw sg rc := hR
  replace hI : INV nf np na nw sg rc := hI
  have b1 := hI.1; have b2 := hI.2.1; have b3 := hI.2.2.1
  refine xMetH.of (by decide +kernel) "DataroomLaw" rfl (Nat.le_of_ble_eq_true rfl) ?_
  intro p9 e9 s m9 below meth c9 ls C het hP hS hl
  have hx := C.hx
  have hb := C.hb
  have hH := hP
  have hX := hR.1
  have hl : lv_has ls 4 [(0, .ref (al (0, 0, 0))), (1, .int x), (2, .int y)] := hl
  obtain ⟨post, hpost⟩ : ∃ zz9 : Option Value → Heap → Prop, zz9 = (fun r H => r = some (.int (f_budget (nf, np, na, nw, sg, rc) x y).1) ∧ PS E base al w (f_budget (nf, np, na, nw, sg, rc) x y).2 H) := ⟨_, rfl⟩
  obtain ⟨px, hpx⟩ : ∃ zz9 : String → Heap → Prop, zz9 = (fun _ _ => False) := ⟨_, rfl⟩
  rw [← hpost, ← hpx]
  generalize hQ : (vx_MQ below (xQ base post) (xX base px) ([.ref (al (0, 0, 0)), .int x, .int y] : List Value).toArray s 2 12 (xA base)) = Q
  refine lv_aload_n hx hb dL_budget_0 rfl (lv_at hl 0 rfl) ?_
  refine lv_iload_n hx hb dL_budget_1 rfl (lv_at hl 1 rfl) ?_
  refine lv_iload_n hx hb dL_budget_2 rfl (lv_at hl 2 rfl) ?_
  refine x_thrV C hH hS (ci := 7) (t := (0, 0, 0)) hX rfl rfl (c_budget l hfl (E := E) (base := base) hR hI (x := x) (y := y)) hH kX6_budget qw_415 qw_416 qw_414  rfl [] rfl hl.1 (Nat.le_of_ble_eq_true rfl) ⟨Nat.le_of_ble_eq_true rfl, Nat.le_of_ble_eq_true rfl⟩ dL_budget_3 ⟨Nat.le_of_ble_eq_true rfl, Nat.le_of_ble_eq_true rfl⟩ (fun X ce q9 H locs hp_1 hS hce hcv hcl => ?_) (fun r_2 H locs hp_1 hS => ?_)
  · skip
    obtain ⟨hcs, hH⟩ := hp_1
    rcases hcs with ⟨rfl, h1⟩ | ⟨rfl, h1, h2⟩
    · skip
      refine vx_catch C.hown [] ⟨0, 6, 7, 23⟩ [⟨0, 6, 11, 14⟩] (het.trans rfl) (fun z hz => by cases hz) (by decide) (by decide) (C.ws _ qw_293) ((C.st.nb nw_308).use rfl) hce hcv hcl ?_
      refine lv_astore_n (lv' := [(3, .ref q9), (0, .ref (al (0, 0, 0))), (1, .int x), (2, .int y)]) hx hb dL_budget_7 rfl hl (by decide) rfl (fun ls hl => ?_)
      refine lv_ldc (v := (-99999999)) hx hb C.hown (C.ws _ qw_289) dL_budget_8 ?_
      rw [← hQ]
      refine vx_ret (x_reti C rfl hS (Nat.le_of_ble_eq_true rfl) (Nat.le_of_ble_eq_true rfl) dL_budget_10 ?_)
      rw [hpost]
      exact fin_no (fun q => h1 q.1) hH hR0
    · skip
      refine vx_catch C.hown [⟨0, 6, 7, 23⟩] ⟨0, 6, 11, 14⟩ [] (het.trans rfl) (List.forall_mem_cons.mpr ⟨Or.inr ⟨by decide, _, C.ws _ qw_293, C.st.2.2.2.1 _ (List.mem_of_getElem? (i := 0) rfl)⟩, fun _ h => by cases h⟩) (by decide) (by decide) (C.ws _ qw_119) ((C.st.nb nw_130).use rfl) hce hcv hcl ?_
      refine lv_astore_n (lv' := [(3, .ref q9), (0, .ref (al (0, 0, 0))), (1, .int x), (2, .int y)]) hx hb dL_budget_11 rfl hl (by decide) rfl (fun ls hl => ?_)
      refine lv_ldc (v := (-99999999)) hx hb C.hown (C.ws _ qw_289) dL_budget_12 ?_
      rw [← hQ]
      refine vx_ret (x_reti C rfl hS (Nat.le_of_ble_eq_true rfl) (Nat.le_of_ble_eq_true rfl) dL_budget_14 ?_)
      rw [hpost]
      exact fin_no (fun q => h2 q.2) hH hR0
  · skip
    obtain ⟨p, hp, rfl, h1, rfl, hH⟩ := hp_1
    have e1 : cl (nI p) = p := cl_nI (by omega)
    rw [← hQ]
    refine vx_ret (x_reti C rfl hS (Nat.le_of_ble_eq_true rfl) (Nat.le_of_ble_eq_true rfl) dL_budget_6 ?_)
    rw [hpost]
    exact fin_ok ⟨⟨p, hp, rfl⟩, h1⟩ (by show _ = (g_budget (nf, np, na, nw, sg, rc) (nI p) y).1; unfold g_budget; rw [e1]) (by show PS E base al w (g_budget (nf, np, na, nw, sg, rc) (nI p) y).2 H; unfold g_budget; rw [e1]; exact hH)

set_option maxHeartbeats 4000000 in
set_option maxRecDepth 100000 in
theorem l_change (l : Launch) (hfl : l.stackTraces = false) {E : xE} {base : Nat} {S : AS} (hI : IV S) {x y : Int32} : HR l yL_change cL_change 4 (some (.int)) [(0, 6, 7, 23), (0, 6, 11, 14)] ({ frames := 9, cells := 2, slots := 12, locals := 149 } : Room) E base [.int x, .int y] S (f_change S x y).1 (f_change S x y).2 := by
  intro al w hR
  obtain ⟨nf, np, na, nw, sg, rc⟩ := S
  have hR0 := hR
  replace hR : RM E al w nf np na nw sg rc := hR
  replace hI : INV nf np na nw sg rc := hI
  have b1 := hI.1; have b2 := hI.2.1; have b3 := hI.2.2.1
  refine xMetH.of (by decide +kernel) "DataroomLaw" rfl (Nat.le_of_ble_eq_true rfl) ?_
  intro p9 e9 s m9 below meth c9 ls C het hP hS hl
  have hx := C.hx
  have hb := C.hb
  have hH := hP
  have hX := hR.1
  have hl : lv_has ls 4 [(0, .ref (al (0, 0, 0))), (1, .int x), (2, .int y)] := hl
  obtain ⟨post, hpost⟩ : ∃ zz9 : Option Value → Heap → Prop, zz9 = (fun r H => r = some (.int (f_change (nf, np, na, nw, sg, rc) x y).1) ∧ PS E base al w (f_change (nf, np, na, nw, sg, rc) x y).2 H) := ⟨_, rfl⟩
  obtain ⟨px, hpx⟩ : ∃ zz9 : String → Heap → Prop, zz9 = (fun _ _ => False) := ⟨_, rfl⟩
  rw [← hpost, ← hpx]
  generalize hQ : (vx_MQ below (xQ base post) (xX base px) ([.ref (al (0, 0, 0)), .int x, .int y] : List Value).toArray s 2 12 (xA base)) = Q
  refine lv_aload_n hx hb dL_change_0 rfl (lv_at hl 0 rfl) ?_
  refine lv_iload_n hx hb dL_change_1 rfl (lv_at hl 1 rfl) ?_
  refine lv_iload_n hx hb dL_change_2 rfl (lv_at hl 2 rfl) ?_
  refine x_thrV C hH hS (ci := 7) (t := (0, 0, 0)) hX rfl rfl (c_change l hfl (E := E) (base := base) hR hI (x := x) (y := y)) hH kX6_change qw_295 qw_296 qw_294  rfl [] rfl hl.1 (Nat.le_of_ble_eq_true rfl) ⟨Nat.le_of_ble_eq_true rfl, Nat.le_of_ble_eq_true rfl⟩ dL_change_3 ⟨Nat.le_of_ble_eq_true rfl, Nat.le_of_ble_eq_true rfl⟩ (fun X ce q9 H locs hp_1 hS hce hcv hcl => ?_) (fun r_2 H locs hp_1 hS => ?_)
  · skip
    obtain ⟨hcs, hH⟩ := hp_1
    rcases hcs with ⟨rfl, h1⟩ | ⟨rfl, h1, h2⟩
    · skip
      refine vx_catch C.hown [] ⟨0, 6, 7, 23⟩ [⟨0, 6, 11, 14⟩] (het.trans rfl) (fun z hz => by cases hz) (by decide) (by decide) (C.ws _ qw_293) ((C.st.nb nw_308).use rfl) hce hcv hcl ?_
      refine lv_astore_n (lv' := [(3, .ref q9), (0, .ref (al (0, 0, 0))), (1, .int x), (2, .int y)]) hx hb dL_change_7 rfl hl (by decide) rfl (fun ls hl => ?_)
      refine lv_ldc (v := (-99999999)) hx hb C.hown (C.ws _ qw_289) dL_change_8 ?_
      rw [← hQ]
      refine vx_ret (x_reti C rfl hS (Nat.le_of_ble_eq_true rfl) (Nat.le_of_ble_eq_true rfl) dL_change_10 ?_)
      rw [hpost]
      exact fin_no (fun q => h1 q.1) hH hR0
    · skip
      refine vx_catch C.hown [⟨0, 6, 7, 23⟩] ⟨0, 6, 11, 14⟩ [] (het.trans rfl) (List.forall_mem_cons.mpr ⟨Or.inr ⟨by decide, _, C.ws _ qw_293, C.st.2.2.2.1 _ (List.mem_of_getElem? (i := 0) rfl)⟩, fun _ h => by cases h⟩) (by decide) (by decide) (C.ws _ qw_119) ((C.st.nb nw_130).use rfl) hce hcv hcl ?_
      refine lv_astore_n (lv' := [(3, .ref q9), (0, .ref (al (0, 0, 0))), (1, .int x), (2, .int y)]) hx hb dL_change_11 rfl hl (by decide) rfl (fun ls hl => ?_)
      refine lv_ldc (v := (-99999999)) hx hb C.hown (C.ws _ qw_289) dL_change_12 ?_
      rw [← hQ]
      refine vx_ret (x_reti C rfl hS (Nat.le_of_ble_eq_true rfl) (Nat.le_of_ble_eq_true rfl) dL_change_14 ?_)
      rw [hpost]
      exact fin_no (fun q => h2 q.2) hH hR0
  · skip
    obtain ⟨f, hf, rfl, h1, rfl, hH⟩ := hp_1
    have e1 : cl (nI f) = f := cl_nI (by omega)
    rw [← hQ]
    refine vx_ret (x_reti C rfl hS (Nat.le_of_ble_eq_true rfl) (Nat.le_of_ble_eq_true rfl) dL_change_6 ?_)
    rw [hpost]
    exact fin_ok ⟨⟨f, hf, rfl⟩, h1⟩ (by show _ = (g_change (nf, np, na, nw, sg, rc) (nI f) y).1; unfold g_change; rw [e1]) (by show PS E base al w (g_change (nf, np, na, nw, sg, rc) (nI f) y).2 H; unfold g_change; rw [e1]; exact hH)

set_option maxHeartbeats 4000000 in
set_option maxRecDepth 100000 in
theorem l_spent (l : Launch) (hfl : l.stackTraces = false) {E : xE} {base : Nat} {S : AS} (hI : IV S) {x : Int32} : HR l yL_spent cL_spent 3 (some (.int)) [(0, 5, 6, 23)] ({ frames := 8, cells := 1, slots := 6, locals := 124 } : Room) E base [.int x] S (f_spent S x).1 (f_spent S x).2 := by
  intro al w hR
  obtain ⟨nf, np, na, nw, sg, rc⟩ := S
  have hR0 := hR
  replace hR : RM E al w nf np na nw sg rc := hR
  replace hI : INV nf np na nw sg rc := hI
  have b1 := hI.1; have b2 := hI.2.1; have b3 := hI.2.2.1
  refine xMetH.of (by decide +kernel) "DataroomLaw" rfl (Nat.le_of_ble_eq_true rfl) ?_
  intro p9 e9 s m9 below meth c9 ls C het hP hS hl
  have hx := C.hx
  have hb := C.hb
  have hH := hP
  have hX := hR.1
  have hl : lv_has ls 3 [(0, .ref (al (0, 0, 0))), (1, .int x)] := hl
  obtain ⟨post, hpost⟩ : ∃ zz9 : Option Value → Heap → Prop, zz9 = (fun r H => r = some (.int (f_spent (nf, np, na, nw, sg, rc) x).1) ∧ PS E base al w (f_spent (nf, np, na, nw, sg, rc) x).2 H) := ⟨_, rfl⟩
  obtain ⟨px, hpx⟩ : ∃ zz9 : String → Heap → Prop, zz9 = (fun _ _ => False) := ⟨_, rfl⟩
  rw [← hpost, ← hpx]
  generalize hQ : (vx_MQ below (xQ base post) (xX base px) ([.ref (al (0, 0, 0)), .int x] : List Value).toArray s 1 6 (xA base)) = Q
  refine lv_aload_n hx hb dL_spent_0 rfl (lv_at hl 0 rfl) ?_
  refine lv_iload_n hx hb dL_spent_1 rfl (lv_at hl 1 rfl) ?_
  refine x_thrV C hH hS (ci := 7) (t := (0, 0, 0)) hX rfl rfl (c_spent l hfl (E := E) (base := base) hR hI (x := x)) hH kX6_spent qw_597 qw_598 qw_596  rfl [] rfl hl.1 (Nat.le_of_ble_eq_true rfl) ⟨Nat.le_of_ble_eq_true rfl, Nat.le_of_ble_eq_true rfl⟩ dL_spent_2 ⟨Nat.le_of_ble_eq_true rfl, Nat.le_of_ble_eq_true rfl⟩ (fun X ce q9 H locs hp_1 hS hce hcv hcl => ?_) (fun r_2 H locs hp_1 hS => ?_)
  · skip
    obtain ⟨rfl, h1, hH⟩ := hp_1
    · skip
      refine vx_catch C.hown [] ⟨0, 5, 6, 23⟩ [] (het.trans rfl) (fun z hz => by cases hz) (by decide) (by decide) (C.ws _ qw_293) ((C.st.nb nw_308).use rfl) hce hcv hcl ?_
      refine lv_astore_n (lv' := [(2, .ref q9), (0, .ref (al (0, 0, 0))), (1, .int x)]) hx hb dL_spent_6 rfl hl (by decide) rfl (fun ls hl => ?_)
      refine lv_ldc (v := (-99999999)) hx hb C.hown (C.ws _ qw_289) dL_spent_7 ?_
      rw [← hQ]
      refine vx_ret (x_reti C rfl hS (Nat.le_of_ble_eq_true rfl) (Nat.le_of_ble_eq_true rfl) dL_spent_9 ?_)
      rw [hpost]
      exact fin_no h1 hH hR0
  · skip
    obtain ⟨p, hp, rfl, rfl, hH⟩ := hp_1
    have e1 : cl (nI p) = p := cl_nI (by omega)
    rw [← hQ]
    refine vx_ret (x_reti C rfl hS (Nat.le_of_ble_eq_true rfl) (Nat.le_of_ble_eq_true rfl) dL_spent_5 ?_)
    rw [hpost]
    exact fin_ok ⟨p, hp, rfl⟩ (by show _ = (g_spent (nf, np, na, nw, sg, rc) (nI p)).1; unfold g_spent; rw [e1]) (PO_of hH hR (fun _ _ => rfl))

set_option maxHeartbeats 4000000 in
set_option maxRecDepth 100000 in
theorem l_cost (l : Launch) (hfl : l.stackTraces = false) {E : xE} {base : Nat} {S : AS} (hI : IV S) {x z bit : Int32} : HR l yL_cost cL_cost 5 (some (.int)) [(0, 7, 8, 23), (0, 7, 13, 14)] ({ frames := 9, cells := 3, slots := 18, locals := 150 } : Room) E base [.int x, .int z, .int bit] S (f_cost S x z bit).1 (f_cost S x z bit).2 := by
  intro al w hR
  obtain ⟨nf, np, na, nw, sg, rc⟩ := S
  have hR0 := hR
  replace hR : RM E al w nf np na nw sg rc := hR
  replace hI : INV nf np na nw sg rc := hI
  have b1 := hI.1; have b2 := hI.2.1; have b3 := hI.2.2.1
  refine xMetH.of (by decide +kernel) "DataroomLaw" rfl (Nat.le_of_ble_eq_true rfl) ?_
  intro p9 e9 s m9 below meth c9 ls C het hP hS hl
  have hx := C.hx
  have hb := C.hb
  have hH := hP
  have hX := hR.1
  have hl : lv_has ls 5 [(0, .ref (al (0, 0, 0))), (1, .int x), (2, .int z), (3, .int bit)] := hl
  obtain ⟨post, hpost⟩ : ∃ zz9 : Option Value → Heap → Prop, zz9 = (fun r H => r = some (.int (f_cost (nf, np, na, nw, sg, rc) x z bit).1) ∧ PS E base al w (f_cost (nf, np, na, nw, sg, rc) x z bit).2 H) := ⟨_, rfl⟩
  obtain ⟨px, hpx⟩ : ∃ zz9 : String → Heap → Prop, zz9 = (fun _ _ => False) := ⟨_, rfl⟩
  rw [← hpost, ← hpx]
  generalize hQ : (vx_MQ below (xQ base post) (xX base px) ([.ref (al (0, 0, 0)), .int x, .int z, .int bit] : List Value).toArray s 3 18 (xA base)) = Q
  refine lv_aload_n hx hb dL_cost_0 rfl (lv_at hl 0 rfl) ?_
  refine lv_iload_n hx hb dL_cost_1 rfl (lv_at hl 1 rfl) ?_
  refine lv_iload_n hx hb dL_cost_2 rfl (lv_at hl 2 rfl) ?_
  refine lv_iload_n hx hb dL_cost_3 rfl (lv_at hl 3 rfl) ?_
  refine x_thrV C hH hS (ci := 7) (t := (0, 0, 0)) hX rfl rfl (c_cost l hfl (E := E) (base := base) hR hI (x := x) (z := z) (bit := bit)) hH kX6_cost qw_578 qw_579 qw_577  rfl [] rfl hl.1 (Nat.le_of_ble_eq_true rfl) ⟨Nat.le_of_ble_eq_true rfl, Nat.le_of_ble_eq_true rfl⟩ dL_cost_4 ⟨Nat.le_of_ble_eq_true rfl, Nat.le_of_ble_eq_true rfl⟩ (fun X ce q9 H locs hp_1 hS hce hcv hcl => ?_) (fun r_2 H locs hp_1 hS => ?_)
  · skip
    obtain ⟨hcs, hH⟩ := hp_1
    rcases hcs with ⟨rfl, h1⟩ | ⟨rfl, h1, h2⟩
    · skip
      refine vx_catch C.hown [] ⟨0, 7, 8, 23⟩ [⟨0, 7, 13, 14⟩] (het.trans rfl) (fun z hz => by cases hz) (by decide) (by decide) (C.ws _ qw_293) ((C.st.nb nw_308).use rfl) hce hcv hcl ?_
      refine lv_astore (lv' := [(4, .ref q9), (0, .ref (al (0, 0, 0))), (1, .int x), (2, .int z), (3, .int bit)]) hx hb dL_cost_8 hl (by decide) rfl (fun ls hl => ?_)
      refine lv_ldc (v := (-99999999)) hx hb C.hown (C.ws _ qw_289) dL_cost_10 ?_
      rw [← hQ]
      refine vx_ret (x_reti C rfl hS (Nat.le_of_ble_eq_true rfl) (Nat.le_of_ble_eq_true rfl) dL_cost_12 ?_)
      rw [hpost]
      exact fin_no (fun q => h1 q.1) hH hR0
    · skip
      refine vx_catch C.hown [⟨0, 7, 8, 23⟩] ⟨0, 7, 13, 14⟩ [] (het.trans rfl) (List.forall_mem_cons.mpr ⟨Or.inr ⟨by decide, _, C.ws _ qw_293, C.st.2.2.2.1 _ (List.mem_of_getElem? (i := 0) rfl)⟩, fun _ h => by cases h⟩) (by decide) (by decide) (C.ws _ qw_119) ((C.st.nb nw_130).use rfl) hce hcv hcl ?_
      refine lv_astore (lv' := [(4, .ref q9), (0, .ref (al (0, 0, 0))), (1, .int x), (2, .int z), (3, .int bit)]) hx hb dL_cost_13 hl (by decide) rfl (fun ls hl => ?_)
      refine lv_ldc (v := (-99999999)) hx hb C.hown (C.ws _ qw_289) dL_cost_15 ?_
      rw [← hQ]
      refine vx_ret (x_reti C rfl hS (Nat.le_of_ble_eq_true rfl) (Nat.le_of_ble_eq_true rfl) dL_cost_17 ?_)
      rw [hpost]
      exact fin_no (fun q => h2 q.2) hH hR0
  · skip
    obtain ⟨p, hp, rfl, h1, rfl, hH⟩ := hp_1
    have e1 : cl (nI p) = p := cl_nI (by omega)
    rw [← hQ]
    refine vx_ret (x_reti C rfl hS (Nat.le_of_ble_eq_true rfl) (Nat.le_of_ble_eq_true rfl) dL_cost_7 ?_)
    rw [hpost]
    exact fin_ok ⟨⟨p, hp, rfl⟩, h1⟩ (by show _ = (g_cost (nf, np, na, nw, sg, rc) (nI p) z bit).1; unfold g_cost; rw [e1]) (PO_of hH hR (fun _ _ => rfl))

set_option maxHeartbeats 4000000 in
set_option maxRecDepth 100000 in
theorem l_right (l : Launch) (hfl : l.stackTraces = false) {E : xE} {base : Nat} {S : AS} (hI : IV S) {x y k a b : Int32} : HR l yL_right cL_right 7 (some (.int)) [(0, 12, 13, 23), (0, 12, 18, 14)] ({ frames := 8, cells := 6, slots := 33, locals := 130 } : Room) E base [.int x, .int y, .int k, .int a, .int b] S (f_right S x y k a b).1 (f_right S x y k a b).2 := by
  intro al w hR
  obtain ⟨nf, np, na, nw, sg, rc⟩ := S
  have hR0 := hR
  replace hR : RM E al w nf np na nw sg rc := hR
  replace hI : INV nf np na nw sg rc := hI
  have b1 := hI.1; have b2 := hI.2.1; have b3 := hI.2.2.1
  refine xMetH.of (by decide +kernel) "DataroomLaw" rfl (Nat.le_of_ble_eq_true rfl) ?_
  intro p9 e9 s m9 below meth c9 ls C het hP hS hl
  have hx := C.hx
  have hb := C.hb
  have hH := hP
  have hX := hR.1
  have hl : lv_has ls 7 [(0, .ref (al (0, 0, 0))), (1, .int x), (2, .int y), (3, .int k), (4, .int a), (5, .int b)] := hl
  obtain ⟨post, hpost⟩ : ∃ zz9 : Option Value → Heap → Prop, zz9 = (fun r H => r = some (.int (f_right (nf, np, na, nw, sg, rc) x y k a b).1) ∧ PS E base al w (f_right (nf, np, na, nw, sg, rc) x y k a b).2 H) := ⟨_, rfl⟩
  obtain ⟨px, hpx⟩ : ∃ zz9 : String → Heap → Prop, zz9 = (fun _ _ => False) := ⟨_, rfl⟩
  rw [← hpost, ← hpx]
  generalize hQ : (vx_MQ below (xQ base post) (xX base px) ([.ref (al (0, 0, 0)), .int x, .int y, .int k, .int a, .int b] : List Value).toArray s 6 33 (xA base)) = Q
  refine lv_aload_n hx hb dL_right_0 rfl (lv_at hl 0 rfl) ?_
  refine lv_iload_n hx hb dL_right_1 rfl (lv_at hl 1 rfl) ?_
  refine lv_iload_n hx hb dL_right_2 rfl (lv_at hl 2 rfl) ?_
  refine lv_iload_n hx hb dL_right_3 rfl (lv_at hl 3 rfl) ?_
  refine lv_iload hx hb dL_right_4 (lv_at hl 4 rfl) ?_
  refine lv_iload hx hb dL_right_6 (lv_at hl 5 rfl) ?_
  refine x_thrV C hH hS (ci := 7) (t := (0, 0, 0)) hX rfl rfl (c_right l hfl (E := E) (base := base) hR hI (x := x) (y := y) (k := k) (a := a) (b := b)) hH kX6_right qw_427 qw_428 qw_426  rfl [] rfl hl.1 (Nat.le_of_ble_eq_true rfl) ⟨Nat.le_of_ble_eq_true rfl, Nat.le_of_ble_eq_true rfl⟩ dL_right_8 ⟨Nat.le_of_ble_eq_true rfl, Nat.le_of_ble_eq_true rfl⟩ (fun X ce q9 H locs hp_1 hS hce hcv hcl => ?_) (fun r_2 H locs hp_1 hS => ?_)
  · skip
    obtain ⟨hcs, hH⟩ := hp_1
    rcases hcs with ⟨rfl, h1⟩ | ⟨rfl, h1, h2⟩
    · skip
      refine vx_catch C.hown [] ⟨0, 12, 13, 23⟩ [⟨0, 12, 18, 14⟩] (het.trans rfl) (fun z hz => by cases hz) (by decide) (by decide) (C.ws _ qw_293) ((C.st.nb nw_308).use rfl) hce hcv hcl ?_
      refine lv_astore (lv' := [(6, .ref q9), (0, .ref (al (0, 0, 0))), (1, .int x), (2, .int y), (3, .int k), (4, .int a), (5, .int b)]) hx hb dL_right_13 hl (by decide) rfl (fun ls hl => ?_)
      refine lv_ldc (v := (-99999999)) hx hb C.hown (C.ws _ qw_289) dL_right_15 ?_
      rw [← hQ]
      refine vx_ret (x_reti C rfl hS (Nat.le_of_ble_eq_true rfl) (Nat.le_of_ble_eq_true rfl) dL_right_17 ?_)
      rw [hpost]
      exact fin_no (fun q => h1 q.1) hH hR0
    · skip
      refine vx_catch C.hown [⟨0, 12, 13, 23⟩] ⟨0, 12, 18, 14⟩ [] (het.trans rfl) (List.forall_mem_cons.mpr ⟨Or.inr ⟨by decide, _, C.ws _ qw_293, C.st.2.2.2.1 _ (List.mem_of_getElem? (i := 0) rfl)⟩, fun _ h => by cases h⟩) (by decide) (by decide) (C.ws _ qw_119) ((C.st.nb nw_130).use rfl) hce hcv hcl ?_
      refine lv_astore (lv' := [(6, .ref q9), (0, .ref (al (0, 0, 0))), (1, .int x), (2, .int y), (3, .int k), (4, .int a), (5, .int b)]) hx hb dL_right_18 hl (by decide) rfl (fun ls hl => ?_)
      refine lv_ldc (v := (-99999999)) hx hb C.hown (C.ws _ qw_289) dL_right_20 ?_
      rw [← hQ]
      refine vx_ret (x_reti C rfl hS (Nat.le_of_ble_eq_true rfl) (Nat.le_of_ble_eq_true rfl) dL_right_22 ?_)
      rw [hpost]
      exact fin_no (fun q => h2 q.2) hH hR0
  · skip
    obtain ⟨p, f, hp, hf, rfl, rfl, h1, rfl, hH⟩ := hp_1
    have e1 : cl (nI p) = p := cl_nI (by omega)
    have e2 : cl (nI f) = f := cl_nI (by omega)
    refine lv_iconst (v := nI 0) hx hb dL_right_11 (by decide +kernel) ?_
    rw [← hQ]
    refine vx_ret (x_reti C rfl hS (Nat.le_of_ble_eq_true rfl) (Nat.le_of_ble_eq_true rfl) dL_right_12 ?_)
    rw [hpost]
    exact fin_ok ⟨⟨⟨p, hp, rfl⟩, ⟨f, hf, rfl⟩⟩, h1⟩ rfl (by show PS E base al w (g_right (nf, np, na, nw, sg, rc) (nI p) (nI f) k a b).2 H; unfold g_right; rw [e1, e2]; exact hH)

set_option maxHeartbeats 4000000 in
set_option maxRecDepth 100000 in
theorem l_takeBack (l : Launch) (hfl : l.stackTraces = false) {E : xE} {base : Nat} {S : AS} (hI : IV S) {x z : Int32} : HR l yL_takeBack cL_takeBack 4 (some (.int)) [(0, 6, 7, 23)] ({ frames := 8, cells := 2, slots := 12, locals := 138 } : Room) E base [.int x, .int z] S (f_takeBack S x z).1 (f_takeBack S x z).2 := by
  intro al w hR
  obtain ⟨nf, np, na, nw, sg, rc⟩ := S
  have hR0 := hR
  replace hR : RM E al w nf np na nw sg rc := hR
  replace hI : INV nf np na nw sg rc := hI
  have b1 := hI.1; have b2 := hI.2.1; have b3 := hI.2.2.1
  refine xMetH.of (by decide +kernel) "DataroomLaw" rfl (Nat.le_of_ble_eq_true rfl) ?_
  intro p9 e9 s m9 below meth c9 ls C het hP hS hl
  have hx := C.hx
  have hb := C.hb
  have hH := hP
  have hX := hR.1
  have hl : lv_has ls 4 [(0, .ref (al (0, 0, 0))), (1, .int x), (2, .int z)] := hl
  obtain ⟨post, hpost⟩ : ∃ zz9 : Option Value → Heap → Prop, zz9 = (fun r H => r = some (.int (f_takeBack (nf, np, na, nw, sg, rc) x z).1) ∧ PS E base al w (f_takeBack (nf, np, na, nw, sg, rc) x z).2 H) := ⟨_, rfl⟩
  obtain ⟨px, hpx⟩ : ∃ zz9 : String → Heap → Prop, zz9 = (fun _ _ => False) := ⟨_, rfl⟩
  rw [← hpost, ← hpx]
  generalize hQ : (vx_MQ below (xQ base post) (xX base px) ([.ref (al (0, 0, 0)), .int x, .int z] : List Value).toArray s 2 12 (xA base)) = Q
  refine lv_aload_n hx hb dL_takeBack_0 rfl (lv_at hl 0 rfl) ?_
  refine lv_iload_n hx hb dL_takeBack_1 rfl (lv_at hl 1 rfl) ?_
  refine lv_iload_n hx hb dL_takeBack_2 rfl (lv_at hl 2 rfl) ?_
  refine x_thrV C hH hS (ci := 7) (t := (0, 0, 0)) hX rfl rfl (c_takeBack l hfl (E := E) (base := base) hR hI (x := x) (z := z)) hH kX6_takeBack qw_454 qw_455 qw_453  rfl [] rfl hl.1 (Nat.le_of_ble_eq_true rfl) ⟨Nat.le_of_ble_eq_true rfl, Nat.le_of_ble_eq_true rfl⟩ dL_takeBack_3 ⟨Nat.le_of_ble_eq_true rfl, Nat.le_of_ble_eq_true rfl⟩ (fun X ce q9 H locs hp_1 hS hce hcv hcl => ?_) (fun r_2 H locs hp_1 hS => ?_)
  · skip
    obtain ⟨rfl, h1, hH⟩ := hp_1
    · skip
      refine vx_catch C.hown [] ⟨0, 6, 7, 23⟩ [] (het.trans rfl) (fun z hz => by cases hz) (by decide) (by decide) (C.ws _ qw_293) ((C.st.nb nw_308).use rfl) hce hcv hcl ?_
      refine lv_astore_n (lv' := [(3, .ref q9), (0, .ref (al (0, 0, 0))), (1, .int x), (2, .int z)]) hx hb dL_takeBack_7 rfl hl (by decide) rfl (fun ls hl => ?_)
      refine lv_ldc (v := (-99999999)) hx hb C.hown (C.ws _ qw_289) dL_takeBack_8 ?_
      rw [← hQ]
      refine vx_ret (x_reti C rfl hS (Nat.le_of_ble_eq_true rfl) (Nat.le_of_ble_eq_true rfl) dL_takeBack_10 ?_)
      rw [hpost]
      exact fin_no h1 hH hR0
  · skip
    obtain ⟨p, f, hp, hf, rfl, rfl, rfl, hH⟩ := hp_1
    have e1 : cl (nI p) = p := cl_nI (by omega)
    have e2 : cl (nI f) = f := cl_nI (by omega)
    rw [← hQ]
    refine vx_ret (x_reti C rfl hS (Nat.le_of_ble_eq_true rfl) (Nat.le_of_ble_eq_true rfl) dL_takeBack_6 ?_)
    rw [hpost]
    exact fin_ok ⟨⟨p, hp, rfl⟩, ⟨f, hf, rfl⟩⟩ (by show _ = (g_takeBack (nf, np, na, nw, sg, rc) (nI p) (nI f)).1; unfold g_takeBack; rw [e1, e2]) (by show PS E base al w (g_takeBack (nf, np, na, nw, sg, rc) (nI p) (nI f)).2 H; unfold g_takeBack; rw [e1, e2]; exact hH)

set_option maxHeartbeats 4000000 in
set_option maxRecDepth 100000 in
theorem l_rightTo (l : Launch) (hfl : l.stackTraces = false) {E : xE} {base : Nat} {S : AS} (hI : IV S) {x z : Int32} : HR l yL_rightTo cL_rightTo 4 (some (.int)) [(0, 6, 7, 23)] ({ frames := 8, cells := 2, slots := 12, locals := 126 } : Room) E base [.int x, .int z] S (f_rightTo S x z).1 (f_rightTo S x z).2 := by
  intro al w hR
  obtain ⟨nf, np, na, nw, sg, rc⟩ := S
  have hR0 := hR
  replace hR : RM E al w nf np na nw sg rc := hR
  replace hI : INV nf np na nw sg rc := hI
  have b1 := hI.1; have b2 := hI.2.1; have b3 := hI.2.2.1
  refine xMetH.of (by decide +kernel) "DataroomLaw" rfl (Nat.le_of_ble_eq_true rfl) ?_
  intro p9 e9 s m9 below meth c9 ls C het hP hS hl
  have hx := C.hx
  have hb := C.hb
  have hH := hP
  have hX := hR.1
  have hl : lv_has ls 4 [(0, .ref (al (0, 0, 0))), (1, .int x), (2, .int z)] := hl
  obtain ⟨post, hpost⟩ : ∃ zz9 : Option Value → Heap → Prop, zz9 = (fun r H => r = some (.int (f_rightTo (nf, np, na, nw, sg, rc) x z).1) ∧ PS E base al w (f_rightTo (nf, np, na, nw, sg, rc) x z).2 H) := ⟨_, rfl⟩
  obtain ⟨px, hpx⟩ : ∃ zz9 : String → Heap → Prop, zz9 = (fun _ _ => False) := ⟨_, rfl⟩
  rw [← hpost, ← hpx]
  generalize hQ : (vx_MQ below (xQ base post) (xX base px) ([.ref (al (0, 0, 0)), .int x, .int z] : List Value).toArray s 2 12 (xA base)) = Q
  refine lv_aload_n hx hb dL_rightTo_0 rfl (lv_at hl 0 rfl) ?_
  refine lv_iload_n hx hb dL_rightTo_1 rfl (lv_at hl 1 rfl) ?_
  refine lv_iload_n hx hb dL_rightTo_2 rfl (lv_at hl 2 rfl) ?_
  refine x_thrV C hH hS (ci := 7) (t := (0, 0, 0)) hX rfl rfl (c_rightTo l hfl (E := E) (base := base) hR hI (x := x) (z := z)) hH kX6_rightTo qw_629 qw_630 qw_628  rfl [] rfl hl.1 (Nat.le_of_ble_eq_true rfl) ⟨Nat.le_of_ble_eq_true rfl, Nat.le_of_ble_eq_true rfl⟩ dL_rightTo_3 ⟨Nat.le_of_ble_eq_true rfl, Nat.le_of_ble_eq_true rfl⟩ (fun X ce q9 H locs hp_1 hS hce hcv hcl => ?_) (fun r_2 H locs hp_1 hS => ?_)
  · skip
    obtain ⟨rfl, h1, hH⟩ := hp_1
    · skip
      refine vx_catch C.hown [] ⟨0, 6, 7, 23⟩ [] (het.trans rfl) (fun z hz => by cases hz) (by decide) (by decide) (C.ws _ qw_293) ((C.st.nb nw_308).use rfl) hce hcv hcl ?_
      refine lv_astore_n (lv' := [(3, .ref q9), (0, .ref (al (0, 0, 0))), (1, .int x), (2, .int z)]) hx hb dL_rightTo_7 rfl hl (by decide) rfl (fun ls hl => ?_)
      refine lv_ldc (v := (-99999999)) hx hb C.hown (C.ws _ qw_289) dL_rightTo_8 ?_
      rw [← hQ]
      refine vx_ret (x_reti C rfl hS (Nat.le_of_ble_eq_true rfl) (Nat.le_of_ble_eq_true rfl) dL_rightTo_10 ?_)
      rw [hpost]
      exact fin_no h1 hH hR0
  · skip
    obtain ⟨p, f, hp, hf, rfl, rfl, rfl, hH⟩ := hp_1
    have e1 : cl (nI p) = p := cl_nI (by omega)
    have e2 : cl (nI f) = f := cl_nI (by omega)
    rw [← hQ]
    refine vx_ret (x_reti C rfl hS (Nat.le_of_ble_eq_true rfl) (Nat.le_of_ble_eq_true rfl) dL_rightTo_6 ?_)
    rw [hpost]
    exact fin_ok ⟨⟨p, hp, rfl⟩, ⟨f, hf, rfl⟩⟩ (by show _ = (g_rightTo (nf, np, na, nw, sg, rc) (nI p) (nI f)).1; unfold g_rightTo; rw [e1, e2]) (PO_of hH hR (fun _ _ => rfl))

set_option maxHeartbeats 4000000 in
set_option maxRecDepth 100000 in
theorem l_finds (l : Launch) (hfl : l.stackTraces = false) {E : xE} {base : Nat} {S : AS} (hI : IV S) {x z : Int32} : HR l yL_finds cL_finds 4 (some (.int)) [(0, 6, 7, 23)] ({ frames := 8, cells := 2, slots := 12, locals := 128 } : Room) E base [.int x, .int z] S (f_finds S x z).1 (f_finds S x z).2 := by
  intro al w hR
  obtain ⟨nf, np, na, nw, sg, rc⟩ := S
  have hR0 := hR
  replace hR : RM E al w nf np na nw sg rc := hR
  replace hI : INV nf np na nw sg rc := hI
  have b1 := hI.1; have b2 := hI.2.1; have b3 := hI.2.2.1
  refine xMetH.of (by decide +kernel) "DataroomLaw" rfl (Nat.le_of_ble_eq_true rfl) ?_
  intro p9 e9 s m9 below meth c9 ls C het hP hS hl
  have hx := C.hx
  have hb := C.hb
  have hH := hP
  have hX := hR.1
  have hl : lv_has ls 4 [(0, .ref (al (0, 0, 0))), (1, .int x), (2, .int z)] := hl
  obtain ⟨post, hpost⟩ : ∃ zz9 : Option Value → Heap → Prop, zz9 = (fun r H => r = some (.int (f_finds (nf, np, na, nw, sg, rc) x z).1) ∧ PS E base al w (f_finds (nf, np, na, nw, sg, rc) x z).2 H) := ⟨_, rfl⟩
  obtain ⟨px, hpx⟩ : ∃ zz9 : String → Heap → Prop, zz9 = (fun _ _ => False) := ⟨_, rfl⟩
  rw [← hpost, ← hpx]
  generalize hQ : (vx_MQ below (xQ base post) (xX base px) ([.ref (al (0, 0, 0)), .int x, .int z] : List Value).toArray s 2 12 (xA base)) = Q
  refine lv_aload_n hx hb dL_finds_0 rfl (lv_at hl 0 rfl) ?_
  refine lv_iload_n hx hb dL_finds_1 rfl (lv_at hl 1 rfl) ?_
  refine lv_iload_n hx hb dL_finds_2 rfl (lv_at hl 2 rfl) ?_
  refine x_thrV C hH hS (ci := 7) (t := (0, 0, 0)) hX rfl rfl (c_finds l hfl (E := E) (base := base) hR hI (x := x) (z := z)) hH kX6_finds qw_604 qw_605 qw_603  rfl [] rfl hl.1 (Nat.le_of_ble_eq_true rfl) ⟨Nat.le_of_ble_eq_true rfl, Nat.le_of_ble_eq_true rfl⟩ dL_finds_3 ⟨Nat.le_of_ble_eq_true rfl, Nat.le_of_ble_eq_true rfl⟩ (fun X ce q9 H locs hp_1 hS hce hcv hcl => ?_) (fun r_2 H locs hp_1 hS => ?_)
  · skip
    obtain ⟨rfl, h1, hH⟩ := hp_1
    · skip
      refine vx_catch C.hown [] ⟨0, 6, 7, 23⟩ [] (het.trans rfl) (fun z hz => by cases hz) (by decide) (by decide) (C.ws _ qw_293) ((C.st.nb nw_308).use rfl) hce hcv hcl ?_
      refine lv_astore_n (lv' := [(3, .ref q9), (0, .ref (al (0, 0, 0))), (1, .int x), (2, .int z)]) hx hb dL_finds_7 rfl hl (by decide) rfl (fun ls hl => ?_)
      refine lv_ldc (v := (-99999999)) hx hb C.hown (C.ws _ qw_289) dL_finds_8 ?_
      rw [← hQ]
      refine vx_ret (x_reti C rfl hS (Nat.le_of_ble_eq_true rfl) (Nat.le_of_ble_eq_true rfl) dL_finds_10 ?_)
      rw [hpost]
      exact fin_no h1 hH hR0
  · skip
    obtain ⟨p, f, hp, hf, rfl, rfl, rfl, hH⟩ := hp_1
    have e1 : cl (nI p) = p := cl_nI (by omega)
    have e2 : cl (nI f) = f := cl_nI (by omega)
    rw [← hQ]
    refine vx_ret (x_reti C rfl hS (Nat.le_of_ble_eq_true rfl) (Nat.le_of_ble_eq_true rfl) dL_finds_6 ?_)
    rw [hpost]
    exact fin_ok ⟨⟨p, hp, rfl⟩, ⟨f, hf, rfl⟩⟩ (by show _ = (g_finds (nf, np, na, nw, sg, rc) (nI p) (nI f)).1; unfold g_finds; rw [e1, e2]) (PO_of hH hR (fun _ _ => rfl))

set_option maxHeartbeats 4000000 in
set_option maxRecDepth 100000 in
theorem l_answer (l : Launch) (hfl : l.stackTraces = false) {E : xE} {base : Nat} {S : AS} (hI : IV S) {x z : Int32} : HR l yL_answer cL_answer 4 (some (.int)) [(0, 6, 7, 23), (0, 6, 11, 14)] ({ frames := 8, cells := 1, slots := 6, locals := 126 } : Room) E base [.int x, .int z] S (f_answer S x z).1 (f_answer S x z).2 := by
  intro al w hR
  obtain ⟨nf, np, na, nw, sg, rc⟩ := S
  have hR0 := hR
  replace hR : RM E al w nf np na nw sg rc := hR
  replace hI : INV nf np na nw sg rc := hI
  have b1 := hI.1; have b2 := hI.2.1; have b3 := hI.2.2.1
  refine xMetH.of (by decide +kernel) "DataroomLaw" rfl (Nat.le_of_ble_eq_true rfl) ?_
  intro p9 e9 s m9 below meth c9 ls C het hP hS hl
  have hx := C.hx
  have hb := C.hb
  have hH := hP
  have hX := hR.1
  have hl : lv_has ls 4 [(0, .ref (al (0, 0, 0))), (1, .int x), (2, .int z)] := hl
  obtain ⟨post, hpost⟩ : ∃ zz9 : Option Value → Heap → Prop, zz9 = (fun r H => r = some (.int (f_answer (nf, np, na, nw, sg, rc) x z).1) ∧ PS E base al w (f_answer (nf, np, na, nw, sg, rc) x z).2 H) := ⟨_, rfl⟩
  obtain ⟨px, hpx⟩ : ∃ zz9 : String → Heap → Prop, zz9 = (fun _ _ => False) := ⟨_, rfl⟩
  rw [← hpost, ← hpx]
  generalize hQ : (vx_MQ below (xQ base post) (xX base px) ([.ref (al (0, 0, 0)), .int x, .int z] : List Value).toArray s 1 6 (xA base)) = Q
  refine lv_aload_n hx hb dL_answer_0 rfl (lv_at hl 0 rfl) ?_
  refine lv_iload_n hx hb dL_answer_1 rfl (lv_at hl 1 rfl) ?_
  refine lv_iload_n hx hb dL_answer_2 rfl (lv_at hl 2 rfl) ?_
  refine x_thrV C hH hS (ci := 7) (t := (0, 0, 0)) hX rfl rfl (c_answer l hfl (E := E) (base := base) hR hI (x := x) (z := z)) hH kX6_answer qw_585 qw_586 qw_584  rfl [] rfl hl.1 (Nat.le_of_ble_eq_true rfl) ⟨Nat.le_of_ble_eq_true rfl, Nat.le_of_ble_eq_true rfl⟩ dL_answer_3 ⟨Nat.le_of_ble_eq_true rfl, Nat.le_of_ble_eq_true rfl⟩ (fun X ce q9 H locs hp_1 hS hce hcv hcl => ?_) (fun r_2 H locs hp_1 hS => ?_)
  · skip
    obtain ⟨hcs, hH⟩ := hp_1
    rcases hcs with ⟨rfl, h1⟩ | ⟨rfl, h1, h2⟩
    · skip
      refine vx_catch C.hown [] ⟨0, 6, 7, 23⟩ [⟨0, 6, 11, 14⟩] (het.trans rfl) (fun z hz => by cases hz) (by decide) (by decide) (C.ws _ qw_293) ((C.st.nb nw_308).use rfl) hce hcv hcl ?_
      refine lv_astore_n (lv' := [(3, .ref q9), (0, .ref (al (0, 0, 0))), (1, .int x), (2, .int z)]) hx hb dL_answer_7 rfl hl (by decide) rfl (fun ls hl => ?_)
      refine lv_ldc (v := (-99999999)) hx hb C.hown (C.ws _ qw_289) dL_answer_8 ?_
      rw [← hQ]
      refine vx_ret (x_reti C rfl hS (Nat.le_of_ble_eq_true rfl) (Nat.le_of_ble_eq_true rfl) dL_answer_10 ?_)
      rw [hpost]
      exact fin_no (fun q => h1 q.1) hH hR0
    · skip
      refine vx_catch C.hown [⟨0, 6, 7, 23⟩] ⟨0, 6, 11, 14⟩ [] (het.trans rfl) (List.forall_mem_cons.mpr ⟨Or.inr ⟨by decide, _, C.ws _ qw_293, C.st.2.2.2.1 _ (List.mem_of_getElem? (i := 0) rfl)⟩, fun _ h => by cases h⟩) (by decide) (by decide) (C.ws _ qw_119) ((C.st.nb nw_130).use rfl) hce hcv hcl ?_
      refine lv_astore_n (lv' := [(3, .ref q9), (0, .ref (al (0, 0, 0))), (1, .int x), (2, .int z)]) hx hb dL_answer_11 rfl hl (by decide) rfl (fun ls hl => ?_)
      refine lv_ldc (v := (-99999999)) hx hb C.hown (C.ws _ qw_289) dL_answer_12 ?_
      rw [← hQ]
      refine vx_ret (x_reti C rfl hS (Nat.le_of_ble_eq_true rfl) (Nat.le_of_ble_eq_true rfl) dL_answer_14 ?_)
      rw [hpost]
      exact fin_no (fun q => h2 q.2) hH hR0
  · skip
    obtain ⟨a, k, ha, hk, rfl, rfl, rfl, hH⟩ := hp_1
    have e1 : cl (nI a) = a := cl_nI (by omega)
    have e2 : cl (nI k) = k := cl_nI (by omega)
    rw [← hQ]
    refine vx_ret (x_reti C rfl hS (Nat.le_of_ble_eq_true rfl) (Nat.le_of_ble_eq_true rfl) dL_answer_6 ?_)
    rw [hpost]
    exact fin_ok ⟨⟨a, ha, rfl⟩, ⟨nI_le (Nat.zero_le _) (by omega), nI_le hk (by omega)⟩⟩ (by show _ = (g_answer (nf, np, na, nw, sg, rc) (nI a) (nI k)).1; unfold g_answer; rw [e1, e2]) (PO_of hH hR (fun _ _ => rfl))

set_option maxHeartbeats 4000000 in
set_option maxRecDepth 100000 in
theorem l_count (l : Launch) (hfl : l.stackTraces = false) {E : xE} {base : Nat} {S : AS} (hI : IV S) {x z : Int32} : HR l yL_count cL_count 4 (some (.int)) [(0, 6, 7, 23), (0, 6, 11, 14)] ({ frames := 8, cells := 2, slots := 12, locals := 127 } : Room) E base [.int x, .int z] S (f_count S x z).1 (f_count S x z).2 := by
  intro al w hR
  obtain ⟨nf, np, na, nw, sg, rc⟩ := S
  have hR0 := hR
  replace hR : RM E al w nf np na nw sg rc := hR
  replace hI : INV nf np na nw sg rc := hI
  have b1 := hI.1; have b2 := hI.2.1; have b3 := hI.2.2.1
  refine xMetH.of (by decide +kernel) "DataroomLaw" rfl (Nat.le_of_ble_eq_true rfl) ?_
  intro p9 e9 s m9 below meth c9 ls C het hP hS hl
  have hx := C.hx
  have hb := C.hb
  have hH := hP
  have hX := hR.1
  have hl : lv_has ls 4 [(0, .ref (al (0, 0, 0))), (1, .int x), (2, .int z)] := hl
  obtain ⟨post, hpost⟩ : ∃ zz9 : Option Value → Heap → Prop, zz9 = (fun r H => r = some (.int (f_count (nf, np, na, nw, sg, rc) x z).1) ∧ PS E base al w (f_count (nf, np, na, nw, sg, rc) x z).2 H) := ⟨_, rfl⟩
  obtain ⟨px, hpx⟩ : ∃ zz9 : String → Heap → Prop, zz9 = (fun _ _ => False) := ⟨_, rfl⟩
  rw [← hpost, ← hpx]
  generalize hQ : (vx_MQ below (xQ base post) (xX base px) ([.ref (al (0, 0, 0)), .int x, .int z] : List Value).toArray s 2 12 (xA base)) = Q
  refine lv_aload_n hx hb dL_count_0 rfl (lv_at hl 0 rfl) ?_
  refine lv_iload_n hx hb dL_count_1 rfl (lv_at hl 1 rfl) ?_
  refine lv_iload_n hx hb dL_count_2 rfl (lv_at hl 2 rfl) ?_
  refine x_thrV C hH hS (ci := 7) (t := (0, 0, 0)) hX rfl rfl (c_count l hfl (E := E) (base := base) hR hI (x := x) (z := z)) hH kX6_count qw_643 qw_644 qw_642  rfl [] rfl hl.1 (Nat.le_of_ble_eq_true rfl) ⟨Nat.le_of_ble_eq_true rfl, Nat.le_of_ble_eq_true rfl⟩ dL_count_3 ⟨Nat.le_of_ble_eq_true rfl, Nat.le_of_ble_eq_true rfl⟩ (fun X ce q9 H locs hp_1 hS hce hcv hcl => ?_) (fun r_2 H locs hp_1 hS => ?_)
  · skip
    obtain ⟨hcs, hH⟩ := hp_1
    rcases hcs with ⟨rfl, h1⟩ | ⟨rfl, h1, h2⟩
    · skip
      refine vx_catch C.hown [] ⟨0, 6, 7, 23⟩ [⟨0, 6, 11, 14⟩] (het.trans rfl) (fun z hz => by cases hz) (by decide) (by decide) (C.ws _ qw_293) ((C.st.nb nw_308).use rfl) hce hcv hcl ?_
      refine lv_astore_n (lv' := [(3, .ref q9), (0, .ref (al (0, 0, 0))), (1, .int x), (2, .int z)]) hx hb dL_count_7 rfl hl (by decide) rfl (fun ls hl => ?_)
      refine lv_ldc (v := (-99999999)) hx hb C.hown (C.ws _ qw_289) dL_count_8 ?_
      rw [← hQ]
      refine vx_ret (x_reti C rfl hS (Nat.le_of_ble_eq_true rfl) (Nat.le_of_ble_eq_true rfl) dL_count_10 ?_)
      rw [hpost]
      exact fin_no (fun q => h1 q.1) hH hR0
    · skip
      refine vx_catch C.hown [⟨0, 6, 7, 23⟩] ⟨0, 6, 11, 14⟩ [] (het.trans rfl) (List.forall_mem_cons.mpr ⟨Or.inr ⟨by decide, _, C.ws _ qw_293, C.st.2.2.2.1 _ (List.mem_of_getElem? (i := 0) rfl)⟩, fun _ h => by cases h⟩) (by decide) (by decide) (C.ws _ qw_119) ((C.st.nb nw_130).use rfl) hce hcv hcl ?_
      refine lv_astore_n (lv' := [(3, .ref q9), (0, .ref (al (0, 0, 0))), (1, .int x), (2, .int z)]) hx hb dL_count_11 rfl hl (by decide) rfl (fun ls hl => ?_)
      refine lv_ldc (v := (-99999999)) hx hb C.hown (C.ws _ qw_289) dL_count_12 ?_
      rw [← hQ]
      refine vx_ret (x_reti C rfl hS (Nat.le_of_ble_eq_true rfl) (Nat.le_of_ble_eq_true rfl) dL_count_14 ?_)
      rw [hpost]
      exact fin_no (fun q => h2 q.2) hH hR0
  · skip
    obtain ⟨p, k, hp, hk, rfl, rfl, rfl, hH⟩ := hp_1
    have e1 : cl (nI p) = p := cl_nI (by omega)
    have e2 : cl (nI k) = k := cl_nI (by omega)
    rw [← hQ]
    refine vx_ret (x_reti C rfl hS (Nat.le_of_ble_eq_true rfl) (Nat.le_of_ble_eq_true rfl) dL_count_6 ?_)
    rw [hpost]
    exact fin_ok ⟨⟨p, hp, rfl⟩, ⟨nI_le (Nat.zero_le _) (by omega), nI_le hk (by omega)⟩⟩ (by show _ = (g_count (nf, np, na, nw, sg, rc) (nI p) (nI k)).1; unfold g_count; rw [e1, e2]) (PO_of hH hR (fun _ _ => rfl))

set_option maxHeartbeats 4000000 in
set_option maxRecDepth 100000 in
theorem l_file (l : Launch) (hfl : l.stackTraces = false) {E : xE} {base : Nat} {S : AS} (hI : IV S) {x : Int32} : HR l yL_file cL_file 3 (some (.int)) [(0, 5, 6, 14), (0, 5, 10, 17)] ({ frames := 8, cells := 3, slots := 368, locals := 212 } : Room) E base [.int x] S (f_file S x).1 (f_file S x).2 := by
  intro al w hR
  obtain ⟨nf, np, na, nw, sg, rc⟩ := S
  have hR0 := hR
  replace hR : RM E al w nf np na nw sg rc := hR
  replace hI : INV nf np na nw sg rc := hI
  have b1 := hI.1; have b2 := hI.2.1; have b3 := hI.2.2.1
  refine xMetH.of (by decide +kernel) "DataroomLaw" rfl (Nat.le_of_ble_eq_true rfl) ?_
  intro p9 e9 s m9 below meth c9 ls C het hP hS hl
  have hx := C.hx
  have hb := C.hb
  have hH := hP
  have hX := hR.1
  have hl : lv_has ls 3 [(0, .ref (al (0, 0, 0))), (1, .int x)] := hl
  obtain ⟨post, hpost⟩ : ∃ zz9 : Option Value → Heap → Prop, zz9 = (fun r H => r = some (.int (f_file (nf, np, na, nw, sg, rc) x).1) ∧ PS E base al w (f_file (nf, np, na, nw, sg, rc) x).2 H) := ⟨_, rfl⟩
  obtain ⟨px, hpx⟩ : ∃ zz9 : String → Heap → Prop, zz9 = (fun _ _ => False) := ⟨_, rfl⟩
  rw [← hpost, ← hpx]
  generalize hQ : (vx_MQ below (xQ base post) (xX base px) ([.ref (al (0, 0, 0)), .int x] : List Value).toArray s 3 368 (xA base)) = Q
  refine lv_aload_n hx hb dL_file_0 rfl (lv_at hl 0 rfl) ?_
  refine lv_iload_n hx hb dL_file_1 rfl (lv_at hl 1 rfl) ?_
  refine x_thrV C hH hS (ci := 7) (t := (0, 0, 0)) hX rfl rfl (c_file l hfl (E := E) (base := base) hR hI (x := x)) hH kX6_file qw_122 qw_123 qw_121  rfl [] rfl hl.1 (Nat.le_of_ble_eq_true rfl) ⟨Nat.le_of_ble_eq_true rfl, Nat.le_of_ble_eq_true rfl⟩ dL_file_2 ⟨Nat.le_of_ble_eq_true rfl, Nat.le_of_ble_eq_true rfl⟩ (fun X ce q9 H locs hp_1 hS hce hcv hcl => ?_) (fun r_2 H locs hp_1 hS => ?_)
  · skip
    obtain ⟨hcs, hH⟩ := hp_1
    rcases hcs with ⟨rfl, h1⟩ | ⟨rfl, h1, h2⟩
    · skip
      refine vx_catch C.hown [] ⟨0, 5, 6, 14⟩ [⟨0, 5, 10, 17⟩] (het.trans rfl) (fun z hz => by cases hz) (by decide) (by decide) (C.ws _ qw_119) ((C.st.nb nw_130).use rfl) hce hcv hcl ?_
      refine lv_astore_n (lv' := [(2, .ref q9), (0, .ref (al (0, 0, 0))), (1, .int x)]) hx hb dL_file_6 rfl hl (by decide) rfl (fun ls hl => ?_)
      refine lv_ldc (v := (-99999999)) hx hb C.hown (C.ws _ qw_289) dL_file_7 ?_
      rw [← hQ]
      refine vx_ret (x_reti C rfl hS (Nat.le_of_ble_eq_true rfl) (Nat.le_of_ble_eq_true rfl) dL_file_9 ?_)
      rw [hpost]
      exact fin_no (fun q => h1 q.1) hH hR0
    · skip
      refine vx_catch C.hown [⟨0, 5, 6, 14⟩] ⟨0, 5, 10, 17⟩ [] (het.trans rfl) (List.forall_mem_cons.mpr ⟨Or.inr ⟨by decide, _, C.ws _ qw_119, C.st.2.2.2.1 _ (List.mem_of_getElem? (i := 2) rfl)⟩, fun _ h => by cases h⟩) (by decide) (by decide) (C.ws _ qw_120) ((C.st.nb nw_202).use rfl) hce hcv hcl ?_
      refine lv_astore_n (lv' := [(2, .ref q9), (0, .ref (al (0, 0, 0))), (1, .int x)]) hx hb dL_file_10 rfl hl (by decide) rfl (fun ls hl => ?_)
      refine lv_ldc (v := (-99999999)) hx hb C.hown (C.ws _ qw_289) dL_file_11 ?_
      rw [← hQ]
      refine vx_ret (x_reti C rfl hS (Nat.le_of_ble_eq_true rfl) (Nat.le_of_ble_eq_true rfl) dL_file_13 ?_)
      rw [hpost]
      exact fin_no (fun q => h2 q.2) hH hR0
  · skip
    obtain ⟨h1, h2, rfl, hH⟩ := hp_1
    rw [← hQ]
    refine vx_ret (x_reti C rfl hS (Nat.le_of_ble_eq_true rfl) (Nat.le_of_ble_eq_true rfl) dL_file_5 ?_)
    rw [hpost]
    exact fin_ok ⟨h1, h2⟩ (by show _ = (g_file (nf, np, na, nw, sg, rc) x).1; unfold g_file; rfl) (by show PS E base al w (g_file (nf, np, na, nw, sg, rc) x).2 H; unfold g_file; exact hH)

set_option maxHeartbeats 4000000 in
set_option maxRecDepth 100000 in
theorem l_party (l : Launch) (hfl : l.stackTraces = false) {E : xE} {base : Nat} {S : AS} (hI : IV S) {x : Int32} : HR l yL_party cL_party 3 (some (.int)) [(0, 5, 6, 14), (0, 5, 10, 17)] ({ frames := 8, cells := 22, slots := 544, locals := 213 } : Room) E base [.int x] S (f_party S x).1 (f_party S x).2 := by
  intro al w hR
  obtain ⟨nf, np, na, nw, sg, rc⟩ := S
  have hR0 := hR
  replace hR : RM E al w nf np na nw sg rc := hR
  replace hI : INV nf np na nw sg rc := hI
  have b1 := hI.1; have b2 := hI.2.1; have b3 := hI.2.2.1
  refine xMetH.of (by decide +kernel) "DataroomLaw" rfl (Nat.le_of_ble_eq_true rfl) ?_
  intro p9 e9 s m9 below meth c9 ls C het hP hS hl
  have hx := C.hx
  have hb := C.hb
  have hH := hP
  have hX := hR.1
  have hl : lv_has ls 3 [(0, .ref (al (0, 0, 0))), (1, .int x)] := hl
  obtain ⟨post, hpost⟩ : ∃ zz9 : Option Value → Heap → Prop, zz9 = (fun r H => r = some (.int (f_party (nf, np, na, nw, sg, rc) x).1) ∧ PS E base al w (f_party (nf, np, na, nw, sg, rc) x).2 H) := ⟨_, rfl⟩
  obtain ⟨px, hpx⟩ : ∃ zz9 : String → Heap → Prop, zz9 = (fun _ _ => False) := ⟨_, rfl⟩
  rw [← hpost, ← hpx]
  generalize hQ : (vx_MQ below (xQ base post) (xX base px) ([.ref (al (0, 0, 0)), .int x] : List Value).toArray s 22 544 (xA base)) = Q
  refine lv_aload_n hx hb dL_party_0 rfl (lv_at hl 0 rfl) ?_
  refine lv_iload_n hx hb dL_party_1 rfl (lv_at hl 1 rfl) ?_
  refine x_thrV C hH hS (ci := 7) (t := (0, 0, 0)) hX rfl rfl (c_party l hfl (E := E) (base := base) hR hI (x := x)) hH kX6_party qw_377 qw_378 qw_376  rfl [] rfl hl.1 (Nat.le_of_ble_eq_true rfl) ⟨Nat.le_of_ble_eq_true rfl, Nat.le_of_ble_eq_true rfl⟩ dL_party_2 ⟨Nat.le_of_ble_eq_true rfl, Nat.le_of_ble_eq_true rfl⟩ (fun X ce q9 H locs hp_1 hS hce hcv hcl => ?_) (fun r_2 H locs hp_1 hS => ?_)
  · skip
    obtain ⟨hcs, hH⟩ := hp_1
    rcases hcs with ⟨rfl, h1⟩ | ⟨rfl, h1, h2⟩
    · skip
      refine vx_catch C.hown [] ⟨0, 5, 6, 14⟩ [⟨0, 5, 10, 17⟩] (het.trans rfl) (fun z hz => by cases hz) (by decide) (by decide) (C.ws _ qw_119) ((C.st.nb nw_130).use rfl) hce hcv hcl ?_
      refine lv_astore_n (lv' := [(2, .ref q9), (0, .ref (al (0, 0, 0))), (1, .int x)]) hx hb dL_party_6 rfl hl (by decide) rfl (fun ls hl => ?_)
      refine lv_ldc (v := (-99999999)) hx hb C.hown (C.ws _ qw_289) dL_party_7 ?_
      rw [← hQ]
      refine vx_ret (x_reti C rfl hS (Nat.le_of_ble_eq_true rfl) (Nat.le_of_ble_eq_true rfl) dL_party_9 ?_)
      rw [hpost]
      exact fin_no (fun q => h1 q.1) hH hR0
    · skip
      refine vx_catch C.hown [⟨0, 5, 6, 14⟩] ⟨0, 5, 10, 17⟩ [] (het.trans rfl) (List.forall_mem_cons.mpr ⟨Or.inr ⟨by decide, _, C.ws _ qw_119, C.st.2.2.2.1 _ (List.mem_of_getElem? (i := 2) rfl)⟩, fun _ h => by cases h⟩) (by decide) (by decide) (C.ws _ qw_120) ((C.st.nb nw_202).use rfl) hce hcv hcl ?_
      refine lv_astore_n (lv' := [(2, .ref q9), (0, .ref (al (0, 0, 0))), (1, .int x)]) hx hb dL_party_10 rfl hl (by decide) rfl (fun ls hl => ?_)
      refine lv_ldc (v := (-99999999)) hx hb C.hown (C.ws _ qw_289) dL_party_11 ?_
      rw [← hQ]
      refine vx_ret (x_reti C rfl hS (Nat.le_of_ble_eq_true rfl) (Nat.le_of_ble_eq_true rfl) dL_party_13 ?_)
      rw [hpost]
      exact fin_no (fun q => h2 q.2) hH hR0
  · skip
    obtain ⟨h1, h2, rfl, hH⟩ := hp_1
    rw [← hQ]
    refine vx_ret (x_reti C rfl hS (Nat.le_of_ble_eq_true rfl) (Nat.le_of_ble_eq_true rfl) dL_party_5 ?_)
    rw [hpost]
    exact fin_ok ⟨h1, h2⟩ (by show _ = (g_party (nf, np, na, nw, sg, rc) x).1; unfold g_party; rfl) (by show PS E base al w (g_party (nf, np, na, nw, sg, rc) x).2 H; unfold g_party; exact hH)

set_option maxHeartbeats 4000000 in
set_option maxRecDepth 100000 in
theorem l_pass (l : Launch) (hfl : l.stackTraces = false) {E : xE} {base : Nat} {S : AS} (hI : IV S) {x : Int32} : HR l yL_pass cL_pass 3 (some (.int)) [(0, 5, 6, 14), (0, 5, 10, 17)] ({ frames := 8, cells := 2, slots := 12, locals := 125 } : Room) E base [.int x] S (f_pass S x).1 (f_pass S x).2 := by
  intro al w hR
  obtain ⟨nf, np, na, nw, sg, rc⟩ := S
  have hR0 := hR
  replace hR : RM E al w nf np na nw sg rc := hR
  replace hI : INV nf np na nw sg rc := hI
  have b1 := hI.1; have b2 := hI.2.1; have b3 := hI.2.2.1
  refine xMetH.of (by decide +kernel) "DataroomLaw" rfl (Nat.le_of_ble_eq_true rfl) ?_
  intro p9 e9 s m9 below meth c9 ls C het hP hS hl
  have hx := C.hx
  have hb := C.hb
  have hH := hP
  have hX := hR.1
  have hl : lv_has ls 3 [(0, .ref (al (0, 0, 0))), (1, .int x)] := hl
  obtain ⟨post, hpost⟩ : ∃ zz9 : Option Value → Heap → Prop, zz9 = (fun r H => r = some (.int (f_pass (nf, np, na, nw, sg, rc) x).1) ∧ PS E base al w (f_pass (nf, np, na, nw, sg, rc) x).2 H) := ⟨_, rfl⟩
  obtain ⟨px, hpx⟩ : ∃ zz9 : String → Heap → Prop, zz9 = (fun _ _ => False) := ⟨_, rfl⟩
  rw [← hpost, ← hpx]
  generalize hQ : (vx_MQ below (xQ base post) (xX base px) ([.ref (al (0, 0, 0)), .int x] : List Value).toArray s 2 12 (xA base)) = Q
  refine lv_aload_n hx hb dL_pass_0 rfl (lv_at hl 0 rfl) ?_
  refine lv_iload_n hx hb dL_pass_1 rfl (lv_at hl 1 rfl) ?_
  refine x_thrV C hH hS (ci := 7) (t := (0, 0, 0)) hX rfl rfl (c_pass l hfl (E := E) (base := base) hR hI (x := x)) hH kX6_pass qw_472 qw_473 qw_471  rfl [] rfl hl.1 (Nat.le_of_ble_eq_true rfl) ⟨Nat.le_of_ble_eq_true rfl, Nat.le_of_ble_eq_true rfl⟩ dL_pass_2 ⟨Nat.le_of_ble_eq_true rfl, Nat.le_of_ble_eq_true rfl⟩ (fun X ce q9 H locs hp_1 hS hce hcv hcl => ?_) (fun r_2 H locs hp_1 hS => ?_)
  · skip
    obtain ⟨hcs, hH⟩ := hp_1
    rcases hcs with ⟨rfl, h1⟩ | ⟨rfl, h1, h2⟩
    · skip
      refine vx_catch C.hown [] ⟨0, 5, 6, 14⟩ [⟨0, 5, 10, 17⟩] (het.trans rfl) (fun z hz => by cases hz) (by decide) (by decide) (C.ws _ qw_119) ((C.st.nb nw_130).use rfl) hce hcv hcl ?_
      refine lv_astore_n (lv' := [(2, .ref q9), (0, .ref (al (0, 0, 0))), (1, .int x)]) hx hb dL_pass_6 rfl hl (by decide) rfl (fun ls hl => ?_)
      refine lv_ldc (v := (-99999999)) hx hb C.hown (C.ws _ qw_289) dL_pass_7 ?_
      rw [← hQ]
      refine vx_ret (x_reti C rfl hS (Nat.le_of_ble_eq_true rfl) (Nat.le_of_ble_eq_true rfl) dL_pass_9 ?_)
      rw [hpost]
      exact fin_no (fun q => h1 q.1) hH hR0
    · skip
      refine vx_catch C.hown [⟨0, 5, 6, 14⟩] ⟨0, 5, 10, 17⟩ [] (het.trans rfl) (List.forall_mem_cons.mpr ⟨Or.inr ⟨by decide, _, C.ws _ qw_119, C.st.2.2.2.1 _ (List.mem_of_getElem? (i := 2) rfl)⟩, fun _ h => by cases h⟩) (by decide) (by decide) (C.ws _ qw_120) ((C.st.nb nw_202).use rfl) hce hcv hcl ?_
      refine lv_astore_n (lv' := [(2, .ref q9), (0, .ref (al (0, 0, 0))), (1, .int x)]) hx hb dL_pass_10 rfl hl (by decide) rfl (fun ls hl => ?_)
      refine lv_ldc (v := (-99999999)) hx hb C.hown (C.ws _ qw_289) dL_pass_11 ?_
      rw [← hQ]
      refine vx_ret (x_reti C rfl hS (Nat.le_of_ble_eq_true rfl) (Nat.le_of_ble_eq_true rfl) dL_pass_13 ?_)
      rw [hpost]
      exact fin_no (fun q => h2 q.2) hH hR0
  · skip
    obtain ⟨k, rfl, h1, h2, rfl, hH⟩ := hp_1
    have k5 : k < 2 ^ 31 := by omega
    have e1 : cl (nI k) = k := cl_nI k5
    have h3 : nI nw + nI k ≤ nI 5000 := by rw [nI_add]; exact nI_le h2 (by omega)
    rw [← hQ]
    refine vx_ret (x_reti C rfl hS (Nat.le_of_ble_eq_true rfl) (Nat.le_of_ble_eq_true rfl) dL_pass_5 ?_)
    rw [hpost]
    exact fin_ok ⟨h1, h3⟩ (by show _ = (g_pass (nf, np, na, nw, sg, rc) (nI k)).1; unfold g_pass; rw [e1]) (by show PS E base al w (g_pass (nf, np, na, nw, sg, rc) (nI k)).2 H; unfold g_pass; rw [e1]; exact hH)

set_option maxHeartbeats 4000000 in
set_option maxRecDepth 100000 in
theorem l_together (l : Launch) (hfl : l.stackTraces = false) {E : xE} {base : Nat} {S : AS} (hI : IV S) {xs z : Int32} : HR l yL_together cL_together 4 (some (.int)) [(0, 6, 7, 23), (0, 6, 11, 14)] ({ frames := 8, cells := 2, slots := 12, locals := 128 } : Room) E base [.int xs, .int z] S (f_together S xs z).1 (f_together S xs z).2 := by
  intro al w hR
  obtain ⟨nf, np, na, nw, sg, rc⟩ := S
  have hR0 := hR
  replace hR : RM E al w nf np na nw sg rc := hR
  replace hI : INV nf np na nw sg rc := hI
  have b1 := hI.1; have b2 := hI.2.1; have b3 := hI.2.2.1
  refine xMetH.of (by decide +kernel) "DataroomLaw" rfl (Nat.le_of_ble_eq_true rfl) ?_
  intro p9 e9 s m9 below meth c9 ls C het hP hS hl
  have hx := C.hx
  have hb := C.hb
  have hH := hP
  have hX := hR.1
  have hl : lv_has ls 4 [(0, .ref (al (0, 0, 0))), (1, .int xs), (2, .int z)] := hl
  obtain ⟨post, hpost⟩ : ∃ zz9 : Option Value → Heap → Prop, zz9 = (fun r H => r = some (.int (f_together (nf, np, na, nw, sg, rc) xs z).1) ∧ PS E base al w (f_together (nf, np, na, nw, sg, rc) xs z).2 H) := ⟨_, rfl⟩
  obtain ⟨px, hpx⟩ : ∃ zz9 : String → Heap → Prop, zz9 = (fun _ _ => False) := ⟨_, rfl⟩
  rw [← hpost, ← hpx]
  generalize hQ : (vx_MQ below (xQ base post) (xX base px) ([.ref (al (0, 0, 0)), .int xs, .int z] : List Value).toArray s 2 12 (xA base)) = Q
  refine lv_aload_n hx hb dL_together_0 rfl (lv_at hl 0 rfl) ?_
  refine lv_iload_n hx hb dL_together_1 rfl (lv_at hl 1 rfl) ?_
  refine lv_iload_n hx hb dL_together_2 rfl (lv_at hl 2 rfl) ?_
  refine x_thrV C hH hS (ci := 7) (t := (0, 0, 0)) hX rfl rfl (c_together l hfl (E := E) (base := base) hR hI (xs := xs) (z := z)) hH kX6_together qw_612 qw_613 qw_611  rfl [] rfl hl.1 (Nat.le_of_ble_eq_true rfl) ⟨Nat.le_of_ble_eq_true rfl, Nat.le_of_ble_eq_true rfl⟩ dL_together_3 ⟨Nat.le_of_ble_eq_true rfl, Nat.le_of_ble_eq_true rfl⟩ (fun X ce q9 H locs hp_1 hS hce hcv hcl => ?_) (fun r_2 H locs hp_1 hS => ?_)
  · skip
    obtain ⟨hcs, hH⟩ := hp_1
    rcases hcs with ⟨rfl, h1⟩ | ⟨rfl, h1, h2⟩
    · skip
      refine vx_catch C.hown [] ⟨0, 6, 7, 23⟩ [⟨0, 6, 11, 14⟩] (het.trans rfl) (fun z hz => by cases hz) (by decide) (by decide) (C.ws _ qw_293) ((C.st.nb nw_308).use rfl) hce hcv hcl ?_
      refine lv_astore_n (lv' := [(3, .ref q9), (0, .ref (al (0, 0, 0))), (1, .int xs), (2, .int z)]) hx hb dL_together_7 rfl hl (by decide) rfl (fun ls hl => ?_)
      refine lv_ldc (v := (-99999999)) hx hb C.hown (C.ws _ qw_289) dL_together_8 ?_
      rw [← hQ]
      refine vx_ret (x_reti C rfl hS (Nat.le_of_ble_eq_true rfl) (Nat.le_of_ble_eq_true rfl) dL_together_10 ?_)
      rw [hpost]
      exact fin_no (fun q => h1 q.1) hH hR0
    · skip
      refine vx_catch C.hown [⟨0, 6, 7, 23⟩] ⟨0, 6, 11, 14⟩ [] (het.trans rfl) (List.forall_mem_cons.mpr ⟨Or.inr ⟨by decide, _, C.ws _ qw_293, C.st.2.2.2.1 _ (List.mem_of_getElem? (i := 0) rfl)⟩, fun _ h => by cases h⟩) (by decide) (by decide) (C.ws _ qw_119) ((C.st.nb nw_130).use rfl) hce hcv hcl ?_
      refine lv_astore_n (lv' := [(3, .ref q9), (0, .ref (al (0, 0, 0))), (1, .int xs), (2, .int z)]) hx hb dL_together_11 rfl hl (by decide) rfl (fun ls hl => ?_)
      refine lv_ldc (v := (-99999999)) hx hb C.hown (C.ws _ qw_289) dL_together_12 ?_
      rw [← hQ]
      refine vx_ret (x_reti C rfl hS (Nat.le_of_ble_eq_true rfl) (Nat.le_of_ble_eq_true rfl) dL_together_14 ?_)
      rw [hpost]
      exact fin_no (fun q => h2 q.2) hH hR0
  · skip
    obtain ⟨f, hf, rfl, h1, rfl, F8, m8, hH⟩ := hp_1
    have e1 : cl (nI f) = f := cl_nI (by omega)
    rw [← hQ]
    refine vx_ret (x_reti C rfl hS (Nat.le_of_ble_eq_true rfl) (Nat.le_of_ble_eq_true rfl) dL_together_6 ?_)
    rw [hpost]
    exact fin_ok ⟨⟨f, hf, rfl⟩, h1⟩ (by show _ = (g_together (nf, np, na, nw, sg, rc) xs (nI f)).1; unfold g_together; rw [e1]) (PO_of hH (RM_sh hR F8 m8) (fun t ht => shw_o (fun e => by rw [e] at ht; revert ht; simp) (fun e => by rw [e] at ht; revert ht; simp)))

set_option maxHeartbeats 4000000 in
set_option maxRecDepth 100000 in
theorem l_isSealed (l : Launch) (hfl : l.stackTraces = false) {E : xE} {base : Nat} {S : AS} (hI : IV S) {x : Int32} : HR l yL_isSealed cL_isSealed 3 (some (.int)) [(0, 13, 14, 23)] ({ frames := 9, cells := 1, slots := 6, locals := 145 } : Room) E base [.int x] S (f_isSealed S x).1 (f_isSealed S x).2 := by
  intro al w hR
  obtain ⟨nf, np, na, nw, sg, rc⟩ := S
  have hR0 := hR
  replace hR : RM E al w nf np na nw sg rc := hR
  replace hI : INV nf np na nw sg rc := hI
  have b1 := hI.1; have b2 := hI.2.1; have b3 := hI.2.2.1
  refine xMetH.of (by decide +kernel) "DataroomLaw" rfl (Nat.le_of_ble_eq_true rfl) ?_
  intro p9 e9 s m9 below meth c9 ls C het hP hS hl
  have hx := C.hx
  have hb := C.hb
  have hH := hP
  have hX := hR.1
  have hl : lv_has ls 3 [(0, .ref (al (0, 0, 0))), (1, .int x)] := hl
  obtain ⟨post, hpost⟩ : ∃ zz9 : Option Value → Heap → Prop, zz9 = (fun r H => r = some (.int (f_isSealed (nf, np, na, nw, sg, rc) x).1) ∧ PS E base al w (f_isSealed (nf, np, na, nw, sg, rc) x).2 H) := ⟨_, rfl⟩
  obtain ⟨px, hpx⟩ : ∃ zz9 : String → Heap → Prop, zz9 = (fun _ _ => False) := ⟨_, rfl⟩
  rw [← hpost, ← hpx]
  generalize hQ : (vx_MQ below (xQ base post) (xX base px) ([.ref (al (0, 0, 0)), .int x] : List Value).toArray s 1 6 (xA base)) = Q
  refine lv_aload_n hx hb dL_isSealed_0 rfl (lv_at hl 0 rfl) ?_
  refine lv_iload_n hx hb dL_isSealed_1 rfl (lv_at hl 1 rfl) ?_
  refine x_thrV C hH hS (ci := 7) (t := (0, 0, 0)) hX rfl rfl (c_isSealed l hfl (E := E) (base := base) hR hI (x := x)) hH kX6_isSealed qw_636 qw_637 qw_635  rfl [] rfl hl.1 (Nat.le_of_ble_eq_true rfl) ⟨Nat.le_of_ble_eq_true rfl, Nat.le_of_ble_eq_true rfl⟩ dL_isSealed_2 ⟨Nat.le_of_ble_eq_true rfl, Nat.le_of_ble_eq_true rfl⟩ (fun X ce q9 H locs hp_1 hS hce hcv hcl => ?_) (fun r_2 H locs hp_1 hS => ?_)
  · skip
    obtain ⟨rfl, h1, hH⟩ := hp_1
    · skip
      refine vx_catch C.hown [] ⟨0, 13, 14, 23⟩ [] (het.trans rfl) (fun z hz => by cases hz) (by decide) (by decide) (C.ws _ qw_293) ((C.st.nb nw_308).use rfl) hce hcv hcl ?_
      refine lv_astore_n (lv' := [(2, .ref q9), (0, .ref (al (0, 0, 0))), (1, .int x)]) hx hb dL_isSealed_14 rfl hl (by decide) rfl (fun ls hl => ?_)
      refine lv_ldc (v := (-99999999)) hx hb C.hown (C.ws _ qw_289) dL_isSealed_15 ?_
      rw [← hQ]
      refine vx_ret (x_reti C rfl hS (Nat.le_of_ble_eq_true rfl) (Nat.le_of_ble_eq_true rfl) dL_isSealed_17 ?_)
      rw [hpost]
      exact fin_no h1 hH hR0
  · skip
    obtain ⟨f, hf, rfl, rfl, hH⟩ := hp_1
    have e1 : cl (nI f) = f := cl_nI (by omega)
    refine lv_if_eq (tgt := 12) hx hb dL_isSealed_5 (by decide) (fun c_3 => ?_) (fun c_3 => ?_)
    · skip
      replace c_3 := ob_0.mp c_3
      refine lv_iconst (v := nI 0) hx hb dL_isSealed_12 (by decide +kernel) ?_
      rw [← hQ]
      refine vx_ret (x_reti C rfl hS (Nat.le_of_ble_eq_true rfl) (Nat.le_of_ble_eq_true rfl) dL_isSealed_13 ?_)
      rw [hpost]
      exact fin_ok ⟨f, hf, rfl⟩ (by show _ = (g_isSealed (nf, np, na, nw, sg, rc) (nI f)).1; unfold g_isSealed; rw [e1]; show _ = ob (decide (nI nw ≤ sg 2 f 0)); rw [c_3]; rfl) (PO_of hH hR (fun _ _ => rfl))
    · skip
      replace c_3 := ob_n.mp c_3
      refine lv_iconst (v := nI 1) hx hb dL_isSealed_8 (by decide +kernel) ?_
      refine lv_goto (tgt := 13) hx hb dL_isSealed_9 (by decide) ?_
      rw [← hQ]
      refine vx_ret (x_reti C rfl hS (Nat.le_of_ble_eq_true rfl) (Nat.le_of_ble_eq_true rfl) dL_isSealed_13 ?_)
      rw [hpost]
      exact fin_ok ⟨f, hf, rfl⟩ (by show _ = (g_isSealed (nf, np, na, nw, sg, rc) (nI f)).1; unfold g_isSealed; rw [e1]; show _ = ob (decide (nI nw ≤ sg 2 f 0)); rw [c_3]; rfl) (PO_of hH hR (fun _ _ => rfl))

set_option maxHeartbeats 4000000 in
set_option maxRecDepth 100000 in
theorem l_ask (l : Launch) (hfl : l.stackTraces = false) {E : xE} {base : Nat} {S : AS} (hI : IV S) {x z bit : Int32} : HR l yL_ask cL_ask 5 (some (.int)) [(0, 7, 8, 23), (0, 7, 13, 14), (0, 7, 18, 17)] ({ frames := 9, cells := 5, slots := 384, locals := 217 } : Room) E base [.int x, .int z, .int bit] S (f_ask S x z bit).1 (f_ask S x z bit).2 := by
  intro al w hR
  obtain ⟨nf, np, na, nw, sg, rc⟩ := S
  have hR0 := hR
  replace hR : RM E al w nf np na nw sg rc := hR
  replace hI : INV nf np na nw sg rc := hI
  have b1 := hI.1; have b2 := hI.2.1; have b3 := hI.2.2.1
  refine xMetH.of (by decide +kernel) "DataroomLaw" rfl (Nat.le_of_ble_eq_true rfl) ?_
  intro p9 e9 s m9 below meth c9 ls C het hP hS hl
  have hx := C.hx
  have hb := C.hb
  have hH := hP
  have hX := hR.1
  have hl : lv_has ls 5 [(0, .ref (al (0, 0, 0))), (1, .int x), (2, .int z), (3, .int bit)] := hl
  obtain ⟨post, hpost⟩ : ∃ zz9 : Option Value → Heap → Prop, zz9 = (fun r H => r = some (.int (f_ask (nf, np, na, nw, sg, rc) x z bit).1) ∧ PS E base al w (f_ask (nf, np, na, nw, sg, rc) x z bit).2 H) := ⟨_, rfl⟩
  obtain ⟨px, hpx⟩ : ∃ zz9 : String → Heap → Prop, zz9 = (fun _ _ => False) := ⟨_, rfl⟩
  rw [← hpost, ← hpx]
  generalize hQ : (vx_MQ below (xQ base post) (xX base px) ([.ref (al (0, 0, 0)), .int x, .int z, .int bit] : List Value).toArray s 5 384 (xA base)) = Q
  refine lv_aload_n hx hb dL_ask_0 rfl (lv_at hl 0 rfl) ?_
  refine lv_iload_n hx hb dL_ask_1 rfl (lv_at hl 1 rfl) ?_
  refine lv_iload_n hx hb dL_ask_2 rfl (lv_at hl 2 rfl) ?_
  refine lv_iload_n hx hb dL_ask_3 rfl (lv_at hl 3 rfl) ?_
  refine x_thrV C hH hS (ci := 7) (t := (0, 0, 0)) hX rfl rfl (c_ask l hfl (E := E) (base := base) hR hI (x := x) (z := z) (bit := bit)) hH kX6_ask qw_480 qw_481 qw_479  rfl [] rfl hl.1 (Nat.le_of_ble_eq_true rfl) ⟨Nat.le_of_ble_eq_true rfl, Nat.le_of_ble_eq_true rfl⟩ dL_ask_4 ⟨Nat.le_of_ble_eq_true rfl, Nat.le_of_ble_eq_true rfl⟩ (fun X ce q9 H locs hp_1 hS hce hcv hcl => ?_) (fun r_2 H locs hp_1 hS => ?_)
  · skip
    obtain ⟨hcs, hH⟩ := hp_1
    rcases hcs with ⟨rfl, h1⟩ | ⟨rfl, h1, h2⟩ | ⟨rfl, h1, h2, h3⟩
    · skip
      refine vx_catch C.hown [] ⟨0, 7, 8, 23⟩ [⟨0, 7, 13, 14⟩, ⟨0, 7, 18, 17⟩] (het.trans rfl) (fun z hz => by cases hz) (by decide) (by decide) (C.ws _ qw_293) ((C.st.nb nw_308).use rfl) hce hcv hcl ?_
      refine lv_astore (lv' := [(4, .ref q9), (0, .ref (al (0, 0, 0))), (1, .int x), (2, .int z), (3, .int bit)]) hx hb dL_ask_8 hl (by decide) rfl (fun ls hl => ?_)
      refine lv_ldc (v := (-99999999)) hx hb C.hown (C.ws _ qw_289) dL_ask_10 ?_
      rw [← hQ]
      refine vx_ret (x_reti C rfl hS (Nat.le_of_ble_eq_true rfl) (Nat.le_of_ble_eq_true rfl) dL_ask_12 ?_)
      rw [hpost]
      exact fin_no (fun q => h1 q.1) hH hR0
    · skip
      refine vx_catch C.hown [⟨0, 7, 8, 23⟩] ⟨0, 7, 13, 14⟩ [⟨0, 7, 18, 17⟩] (het.trans rfl) (List.forall_mem_cons.mpr ⟨Or.inr ⟨by decide, _, C.ws _ qw_293, C.st.2.2.2.1 _ (List.mem_of_getElem? (i := 0) rfl)⟩, fun _ h => by cases h⟩) (by decide) (by decide) (C.ws _ qw_119) ((C.st.nb nw_130).use rfl) hce hcv hcl ?_
      refine lv_astore (lv' := [(4, .ref q9), (0, .ref (al (0, 0, 0))), (1, .int x), (2, .int z), (3, .int bit)]) hx hb dL_ask_13 hl (by decide) rfl (fun ls hl => ?_)
      refine lv_ldc (v := (-99999999)) hx hb C.hown (C.ws _ qw_289) dL_ask_15 ?_
      rw [← hQ]
      refine vx_ret (x_reti C rfl hS (Nat.le_of_ble_eq_true rfl) (Nat.le_of_ble_eq_true rfl) dL_ask_17 ?_)
      rw [hpost]
      exact fin_no (fun q => h2 q.2.1) hH hR0
    · skip
      refine vx_catch C.hown [⟨0, 7, 8, 23⟩, ⟨0, 7, 13, 14⟩] ⟨0, 7, 18, 17⟩ [] (het.trans rfl) (List.forall_mem_cons.mpr ⟨Or.inr ⟨by decide, _, C.ws _ qw_293, C.st.2.2.2.1 _ (List.mem_of_getElem? (i := 1) rfl)⟩, List.forall_mem_cons.mpr ⟨Or.inr ⟨by decide, _, C.ws _ qw_119, C.st.2.2.2.1 _ (List.mem_of_getElem? (i := 2) rfl)⟩, fun _ h => by cases h⟩⟩) (by decide) (by decide) (C.ws _ qw_120) ((C.st.nb nw_202).use rfl) hce hcv hcl ?_
      refine lv_astore (lv' := [(4, .ref q9), (0, .ref (al (0, 0, 0))), (1, .int x), (2, .int z), (3, .int bit)]) hx hb dL_ask_18 hl (by decide) rfl (fun ls hl => ?_)
      refine lv_ldc (v := (-99999999)) hx hb C.hown (C.ws _ qw_289) dL_ask_20 ?_
      rw [← hQ]
      refine vx_ret (x_reti C rfl hS (Nat.le_of_ble_eq_true rfl) (Nat.le_of_ble_eq_true rfl) dL_ask_22 ?_)
      rw [hpost]
      exact fin_no (fun q => h3 q.2.2) hH hR0
  · skip
    obtain ⟨p, hp, rfl, h1, h2, hE⟩ := hp_1
    have e1 : cl (nI p) = p := cl_nI (by omega)
    obtain ⟨v8, rfl, hv8, hP8⟩ : ∃ v8 : Int32, r_2 = some (Value.int v8) ∧ v8 = (g_ask (nf, np, na, nw, sg, rc) (nI p) z bit).1 ∧ PS E base al w (g_ask (nf, np, na, nw, sg, rc) (nI p) z bit).2 H := by
      unfold g_ask
      rw [e1]
      rcases hE with ⟨a, b, c⟩ | ⟨a, b, c⟩
      · rw [cif_t a]; exact ⟨_, b, rfl, c⟩
      · rw [cif_f (fun q => q a)]; exact ⟨_, b, rfl, c⟩
    rw [← hQ]
    refine vx_ret (x_reti C rfl hS (Nat.le_of_ble_eq_true rfl) (Nat.le_of_ble_eq_true rfl) dL_ask_7 ?_)
    rw [hpost]
    exact fin_ok ⟨⟨p, hp, rfl⟩, h1, h2⟩ hv8 hP8
