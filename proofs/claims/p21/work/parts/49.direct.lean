/-! calls on a room that can't throw there -/
def HX (l : Launch) (y : MethodName) (b : ByteArray) (n : Nat) (ry : Option FieldType) (rm : Room) (E : xE) (base : Nat) (As : List Value) (S : AS) (v : Int32) : Prop :=
  ∀ (al : Tg → Nat) (w : Tg → Option va_E), RS E al w S → xMetX l y b n ry rm E base (.ref (al (0, 0, 0)) :: As) (fun H => xH E base al w H) (fun r H => r = some (.int v) ∧ PS E base al w S H) (fun _ _ => False)
section XDI
variable {p : Program} {l : Launch} {e : Env} {R : Room} {s : State} {m : MethodId} {args : Array Value} {below : List Frame} {meth : Method} {c : Code} {H : Heap} {locs : List Loc} {cells slots : Nat} {Q : State → Prop}
variable {cc : ByteArray} {pc nL : Nat} {ls : Array Slot} {st0 : List Value} {own : String} {ret : Option FieldType} {E : xE} {base A0 : Nat} {S : AS} {v : Int32}
variable {y : MethodName} {b : ByteArray} {n k index : Nat} {ry : Option FieldType} {rm : Room} {As : List Value}
theorem x_dir (C : XC p s m args meth c own cc nL ret E base) (hS : va_S (xA base) s.heap H locs) (hD : SR E base A0 S H) (hM : HX l y b n ry rm E base As S v) (hcls : "Dataroom" = y.cls)
    (hy : xY y b n ry k) (hin : Cond.instanceMethod y ∈ WS) (hsel : Cond.selects y.cls y y ∈ WS) (hl : Cond.methodLink own index y ∈ WS) (hk : As.length = k) (rest : List Value) (hst : st0 = As.reverse ++ .ref A0 :: rest) (hsize : ls.size = nL) (h8 : (rest.map fun v => v.category).sum ≤ 8) (hR : rm.frames + 1 ≤ R.frames ∧ 8 + (n + 11) + rm.locals ≤ R.locals) (hdg : decode cc pc = .ok (.invokevirtual index, 3)) (hf : cells + rm.cells ≤ R.cells ∧ slots + rm.slots ≤ R.slots)
    (kk : ∀ (H1 : Heap) (locs1 : List Loc), SR E base A0 S H1 → va_S (xA base) s.heap H1 locs1 → W p l e R s m args below meth c H1 locs1 (cells + rm.cells) (slots + rm.slots) Q (F0 m (pc + 3) ls (.int v :: rest))) : W p l e R s m args below meth c H locs cells slots Q (F0 m pc ls st0) := by
  obtain ⟨al, w, ⟨hW, h0⟩, hH⟩ := hD
  subst h0
  refine x_thrV C hH hS (ci := 7) (t := (0, 0, 0)) hW.1 rfl hcls (hM al w hW) hH hy hin hsel hl hk rest hst hsize h8 hR hdg hf (fun X ce q9 H1 locs1 hp => hp.elim) (fun r H1 locs1 hp hS1 => ?_)
  obtain ⟨rfl, hp⟩ := hp
  exact kk _ _ (hp.S rfl) hS1
end XDI
section QDI
variable {nf np na nw : Nat} {sg : Nat → Nat → Nat → Int32} {rc : Nat → Bool} {E : xE} {base : Nat}
theorem q_answer (l : Launch) (hfl : l.stackTraces = false) (hI : IV (nf, np, na, nw, sg, rc)) {a k : Nat} (ha : a < na) (hk : k ≤ 5) : HX l yX6_answer cX6_answer 3 (some (.int)) ({ frames := 7, cells := 1, slots := 6, locals := 104 } : Room) E base [.int (nI a), .int (nI k)] (nf, np, na, nw, sg, rc) (tlv (sg 7 a 0) (sg 8 a 0) (sg 9 a 0) (sg 10 a 0) (sg 11 a 0) (ob (rc a)) k) := by
  intro al w hR
  replace hR : RM E al w nf np na nw sg rc := hR
  replace hI : INV nf np na nw sg rc := hI
  have b1 : nf ≤ 16 := hI.1
  have b2 : np ≤ 6 := hI.2.1
  have b3 : na ≤ 150 := hI.2.2.1
  refine metF_imp (c_answer l hfl (E := E) (base := base) hR hI (x := nI a) (z := nI k)) (vxQ_imp (fun r H hp => ?_) (fun X H hp => ?_))
  · obtain ⟨a9, k9, ha9, hk9, e1, e2, rfl, hH⟩ := hp
    have e1_9 := (nI_eq (by omega) (by omega)).mp e1
    subst e1_9
    have e2_9 := (nI_eq (by omega) (by omega)).mp e2
    subst e2_9
    exact ⟨rfl, PO_of hH hR (fun _ _ => rfl)⟩
  · rcases hp with ⟨h | h, -⟩
    · exact h.2 ⟨a, ha, rfl⟩
    · exact h.2.2 ⟨nI_le (Nat.zero_le _) (by omega), nI_le hk (by omega)⟩
theorem q_count5 (l : Launch) (hfl : l.stackTraces = false) (hI : IV (nf, np, na, nw, sg, rc)) {p : Nat} (hp0 : p < np) : HX l yX6_count cX6_count 4 (some (.int)) ({ frames := 7, cells := 2, slots := 12, locals := 104 } : Room) E base [.int (nI p), .int (nI 5)] (nf, np, na, nw, sg, rc) (nI (cSt sg rc p na)) := by
  intro al w hR
  replace hR : RM E al w nf np na nw sg rc := hR
  replace hI : INV nf np na nw sg rc := hI
  have b1 : nf ≤ 16 := hI.1
  have b2 : np ≤ 6 := hI.2.1
  have b3 : na ≤ 150 := hI.2.2.1
  refine metF_imp (c_count l hfl (E := E) (base := base) hR hI (x := nI p) (z := nI 5)) (vxQ_imp (fun r H hp => ?_) (fun X H hp => ?_))
  · obtain ⟨a9, k9, ha9, hk9, e1, e2, rfl, hH⟩ := hp
    have e1_9 := (nI_eq (by omega) (by omega)).mp e1
    subst e1_9
    have e2_9 := (nI_eq (by omega) (by omega)).mp e2
    subst e2_9
    exact ⟨rfl, PO_of hH hR (fun _ _ => rfl)⟩
  · rcases hp with ⟨h | h, -⟩
    · exact h.2 ⟨p, hp0, rfl⟩
    · exact h.2.2 ⟨by decide, by decide⟩
theorem q_count0 (l : Launch) (hfl : l.stackTraces = false) (hI : IV (nf, np, na, nw, sg, rc)) {p : Nat} (hp0 : p < np) : HX l yX6_count cX6_count 4 (some (.int)) ({ frames := 7, cells := 2, slots := 12, locals := 104 } : Room) E base [.int (nI p), .int (nI 0)] (nf, np, na, nw, sg, rc) (sg 13 p 0) := by
  intro al w hR
  replace hR : RM E al w nf np na nw sg rc := hR
  replace hI : INV nf np na nw sg rc := hI
  have b1 : nf ≤ 16 := hI.1
  have b2 : np ≤ 6 := hI.2.1
  have b3 : na ≤ 150 := hI.2.2.1
  refine metF_imp (c_count l hfl (E := E) (base := base) hR hI (x := nI p) (z := nI 0)) (vxQ_imp (fun r H hp => ?_) (fun X H hp => ?_))
  · obtain ⟨a9, k9, ha9, hk9, e1, e2, rfl, hH⟩ := hp
    have e1_9 := (nI_eq (by omega) (by omega)).mp e1
    subst e1_9
    have e2_9 := (nI_eq (by omega) (by omega)).mp e2
    subst e2_9
    exact ⟨rfl, PO_of hH hR (fun _ _ => rfl)⟩
  · rcases hp with ⟨h | h, -⟩
    · exact h.2 ⟨p, hp0, rfl⟩
    · exact h.2.2 ⟨by decide, by decide⟩
theorem q_spentAnew (l : Launch) (hfl : l.stackTraces = false) (hI : IV (nf, np, na, nw, sg, rc)) {p : Nat} (hp0 : p < np) : HX l yX6_spentAnew cX6_spentAnew 5 (some (.int)) ({ frames := 7, cells := 1, slots := 6, locals := 103 } : Room) E base [.int (nI p)] (nf, np, na, nw, sg, rc) (nI (sC (KCs sg rc na p) 8)) := by
  intro al w hR
  replace hR : RM E al w nf np na nw sg rc := hR
  replace hI : INV nf np na nw sg rc := hI
  have b1 : nf ≤ 16 := hI.1
  have b2 : np ≤ 6 := hI.2.1
  have b3 : na ≤ 150 := hI.2.2.1
  refine metF_imp (c_spentAnew l hfl (E := E) (base := base) hR hI (x := nI p)) (vxQ_imp (fun r H hp => ?_) (fun X H hp => ?_))
  · obtain ⟨a9, ha9, e1, rfl, f8, m8, hH⟩ := hp
    have e1_9 := (nI_eq (by omega) (by omega)).mp e1
    subst e1_9
    exact ⟨rfl, PO_of hH (RM_mk hR f8 m8) (fun t ht => mkw_o (fun e => by rw [e] at ht; revert ht; simp) (fun e => by rw [e] at ht; revert ht; simp))⟩
  · exact hp.2.1 ⟨p, hp0, rfl⟩
theorem q_cost (l : Launch) (hfl : l.stackTraces = false) (hI : IV (nf, np, na, nw, sg, rc)) {p : Nat} {z bit : Int32} (hp0 : p < np) (hq : Qok nf z bit) : HX l yX6_cost cX6_cost 5 (some (.int)) ({ frames := 8, cells := 3, slots := 18, locals := 126 } : Room) E base [.int (nI p), .int z, .int bit] (nf, np, na, nw, sg, rc) (nI (cC (KFs sg rc na p) bit z 8)) := by
  intro al w hR
  replace hR : RM E al w nf np na nw sg rc := hR
  replace hI : INV nf np na nw sg rc := hI
  have b1 : nf ≤ 16 := hI.1
  have b2 : np ≤ 6 := hI.2.1
  have b3 : na ≤ 150 := hI.2.2.1
  refine metF_imp (c_cost l hfl (E := E) (base := base) hR hI (x := nI p) (z := z) (bit := bit)) (vxQ_imp (fun r H hp => ?_) (fun X H hp => ?_))
  · obtain ⟨a9, ha9, e1, hq9, rfl, hH⟩ := hp
    have e1_9 := (nI_eq (by omega) (by omega)).mp e1
    subst e1_9
    exact ⟨rfl, PO_of hH hR (fun _ _ => rfl)⟩
  · rcases hp with ⟨h | h, -⟩
    · exact h.2 ⟨p, hp0, rfl⟩
    · exact h.2.2 hq
theorem q_tog1 (l : Launch) (hfl : l.stackTraces = false) (hI : IV (nf, np, na, nw, sg, rc)) {p f : Nat} (hp0 : p < np) (hf : f < nf) : HX l yX6_together cX6_together 5 (some (.int)) ({ frames := 7, cells := 2, slots := 12, locals := 104 } : Room) E base [.int (nI 1 <<< (nI p &&& 31)), .int (nI f)] (nf, np, na, nw, sg, rc) (fBs (fun b => decide (red (KFs sg rc na p b) 16 (nI 1 <<< (nI f &&& 31)) = 0)) 8) := by
  intro al w hR
  replace hR : RM E al w nf np na nw sg rc := hR
  replace hI : INV nf np na nw sg rc := hI
  have b1 : nf ≤ 16 := hI.1
  have b2 : np ≤ 6 := hI.2.1
  have b3 : na ≤ 150 := hI.2.2.1
  refine metF_imp (c_together l hfl (E := E) (base := base) hR hI (xs := nI 1 <<< (nI p &&& 31)) (z := nI f)) (vxQ_imp (fun r H hp => ?_) (fun X H hp => ?_))
  · obtain ⟨a9, ha9, e1, h1, rfl, F8, m8, hH⟩ := hp
    have e1_9 := (nI_eq (by omega) (by omega)).mp e1
    subst e1_9
    rw [so_tog hI hp0]
    exact ⟨rfl, PO_of hH (RM_sh hR F8 m8) (fun t ht => shw_o (fun e => by rw [e] at ht; revert ht; simp) (fun e => by rw [e] at ht; revert ht; simp))⟩
  · rcases hp with ⟨h | h, -⟩
    · exact h.2 ⟨f, hf, rfl⟩
    · exact h.2.2 ⟨Int32.le_trans (by decide : nI 0 ≤ nI 1) (rng_p (n := np) (by omega) hp0).1, (rng_p (n := np) (by omega) hp0).2⟩
theorem q_tog0 (l : Launch) (hfl : l.stackTraces = false) (hI : IV (nf, np, na, nw, sg, rc)) {f : Nat} (hf : f < nf) : HX l yX6_together cX6_together 5 (some (.int)) ({ frames := 7, cells := 2, slots := 12, locals := 104 } : Room) E base [.int (nI 0), .int (nI f)] (nf, np, na, nw, sg, rc) (nI 0) := by
  intro al w hR
  replace hR : RM E al w nf np na nw sg rc := hR
  replace hI : INV nf np na nw sg rc := hI
  have b1 : nf ≤ 16 := hI.1
  have b2 : np ≤ 6 := hI.2.1
  have b3 : na ≤ 150 := hI.2.2.1
  refine metF_imp (c_together l hfl (E := E) (base := base) hR hI (xs := nI 0) (z := nI f)) (vxQ_imp (fun r H hp => ?_) (fun X H hp => ?_))
  · obtain ⟨a9, ha9, e1, h1, rfl, F8, m8, hH⟩ := hp
    have e1_9 := (nI_eq (by omega) (by omega)).mp e1
    subst e1_9
    rw [so_no hI (by omega)]
    exact ⟨rfl, PO_of hH (RM_sh hR F8 m8) (fun t ht => shw_o (fun e => by rw [e] at ht; revert ht; simp) (fun e => by rw [e] at ht; revert ht; simp))⟩
  · rcases hp with ⟨h | h, -⟩
    · exact h.2 ⟨f, hf, rfl⟩
    · exact h.2.2 (rng_0 (by omega))
theorem nin {x n : Nat} (h : ¬ x < n) (hx : x < 2 ^ 31) (hn : n < 2 ^ 31) : ¬ inR (nI x) n := by
  rintro ⟨j, hj, e⟩
  exact h (by have := (nI_eq hx (by omega)).mp e; omega)
theorem v_answer (hI : IV (nf, np, na, nw, sg, rc)) {a k : Nat} (ha : a < na) (hk : k ≤ 5) : (f_answer (nf, np, na, nw, sg, rc) (nI a) (nI k)).1 = tlv (sg 7 a 0) (sg 8 a 0) (sg 9 a 0) (sg 10 a 0) (sg 11 a 0) (ob (rc a)) k := by
  have b3 : na ≤ 150 := hI.2.2.1
  unfold f_answer
  rw [cif_t ⟨⟨a, ha, rfl⟩, ⟨nI_le (Nat.zero_le _) (by omega), nI_le hk (by omega)⟩⟩]
  unfold g_answer
  rw [cl_nI (by omega), cl_nI (by omega)]
theorem v_answer_n (hI : IV (nf, np, na, nw, sg, rc)) {a : Nat} {z : Int32} (h : a < 2 ^ 31) (ha : ¬ a < na) : (f_answer (nf, np, na, nw, sg, rc) (nI a) z).1 = -99999999 := by
  have b3 : na ≤ 150 := hI.2.2.1
  unfold f_answer
  rw [cif_f (fun q => nin (n := na) ha h (by omega) q.1)]; rfl
theorem v_answer_m (hI : IV (nf, np, na, nw, sg, rc)) {z : Int32} : (f_answer (nf, np, na, nw, sg, rc) (-1) z).1 = -99999999 := by
  unfold f_answer
  rw [cif_f]
  · rfl
  · rintro ⟨⟨j, hj, e⟩, -⟩
    have hj : j < na := hj
    have b3 : na ≤ 150 := hI.2.2.1
    exact nI_pos (n := j) (by omega) (by rw [← e]; decide)
theorem v_spent (hI : IV (nf, np, na, nw, sg, rc)) {p : Nat} (hp : p < np) : (f_spent (nf, np, na, nw, sg, rc) (nI p)).1 = nI (sC (KCs sg rc na p) 8) := by
  have b2 : np ≤ 6 := hI.2.1
  unfold f_spent
  rw [cif_t ⟨p, hp, rfl⟩]
  unfold g_spent
  rw [cl_nI (by omega)]
theorem v_spent_n (hI : IV (nf, np, na, nw, sg, rc)) {p : Nat} (h : p < 2 ^ 31) (hp : ¬ p < np) : (f_spent (nf, np, na, nw, sg, rc) (nI p)).1 = -99999999 := by
  have b2 : np ≤ 6 := hI.2.1
  unfold f_spent
  rw [cif_f (nin (n := np) hp h (by omega))]; rfl
theorem v_finds (hI : IV (nf, np, na, nw, sg, rc)) {p f : Nat} (hp : p < np) (hf : f < nf) : (f_finds (nf, np, na, nw, sg, rc) (nI p) (nI f)).1 = fBs (fun b => decide (red (KFs sg rc na p b) 16 (nI 1 <<< (nI f &&& 31)) = 0)) 8 := by
  have b1 : nf ≤ 16 := hI.1
  have b2 : np ≤ 6 := hI.2.1
  unfold f_finds
  rw [cif_t ⟨⟨p, hp, rfl⟩, ⟨f, hf, rfl⟩⟩]
  unfold g_finds
  rw [cl_nI (by omega), cl_nI (by omega)]
theorem v_finds_n (hI : IV (nf, np, na, nw, sg, rc)) {x : Int32} {f : Nat} (h : f < 2 ^ 31) (hf : ¬ f < nf) : (f_finds (nf, np, na, nw, sg, rc) x (nI f)).1 = -99999999 := by
  have b1 : nf ≤ 16 := hI.1
  unfold f_finds
  rw [cif_f (fun q => nin (n := nf) hf h (by omega) q.2)]; rfl
end QDI
