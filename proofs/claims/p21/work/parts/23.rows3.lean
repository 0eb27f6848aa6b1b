/-! rows for ArrayList's growth: a tag moved, System.arraycopy of references, getClass of an Object[] -/
def xmv (w : Tg → Option va_E) (tA tT : Tg) : Tg → Option va_E := fun t => if t = tA then w tT else if t = tT then none else w t
theorem xH.ren {E : xE} {base : Nat} {al : Tg → Nat} {w : Tg → Option va_E} {H : Heap} (h : xH E base al w H) (tA tT : Tg) : xH E base (xa al tA (al tT)) (xmv w tA tT) H := by
  have key : ∀ t e, xmv w tA tT t = some e → ∃ u, w u = some e ∧ xa al tA (al tT) t = al u ∧ (t = tA ∧ u = tT ∨ t ≠ tA ∧ t ≠ tT ∧ u = t) := by
    intro t e ht
    unfold xmv at ht
    by_cases k : t = tA
    · rw [if_pos k] at ht
      exact ⟨tT, ht, by rw [k, xa_self], Or.inl ⟨k, rfl⟩⟩
    · rw [if_neg k] at ht
      by_cases k2 : t = tT
      · rw [if_pos k2] at ht; cases ht
      · rw [if_neg k2] at ht
        exact ⟨t, ht, xa_ne k, Or.inr ⟨k, k2, rfl⟩⟩
  refine ⟨fun t e ht => ?_, fun t t' e e' ht ht' he => ?_⟩
  · obtain ⟨u, hu, ea, -⟩ := key t e ht
    rw [ea]
    exact h.1 u e hu
  · obtain ⟨u, hu, ea, k⟩ := key t e ht
    obtain ⟨u', hu', ea', k'⟩ := key t' e' ht'
    rw [ea, ea'] at he
    have := h.2 u u' e e' hu hu' he
    rcases k with ⟨k1, k2⟩ | ⟨k1, k2, k3⟩ <;> rcases k' with ⟨q1, q2⟩ | ⟨q1, q2, q3⟩
    · rw [k1, q1]
    · rw [q3, k2] at this; exact absurd this.symm q2
    · rw [k3, q2] at this; exact absurd this k2
    · rw [← k3, ← q3]; exact this
section XR4
variable {p : Program} {l : Launch} {e : Env} {R : Room} {s : State} {m : MethodId} {args : Array Value} {below : List Frame} {meth : Method} {c : Code} {H : Heap} {locs : List Loc} {cells slots : Nat} {Q : State → Prop}
variable {cc : ByteArray} {pc nL : Nat} {ls : Array Slot} {rest : List Value} {own : String} {ret : Option FieldType} {E : xE} {base : Nat} {al : Tg → Nat} {w : Tg → Option va_E}
theorem x_mmax (C : XC p s m args meth c own cc nL ret E base) {index : Nat} (hl : Cond.methodLink own index Lib.Math.max.name ∈ WS) (hst : Cond.static Lib.Math.max.name ∈ WS) (hini : Cond.initialized "java/lang/Math" ∈ WS) (hcode : Cond.code Lib.Math.max.name Lib.Math.max.code 2 (some .int) ∈ WS) (hsize : ls.size = nL) (hf : 1 ≤ R.frames) (hlo : (rest.map fun v => v.category).sum + 13 ≤ R.locals) (hc : cells ≤ R.cells) (hs : slots ≤ R.slots) {x y : Int32} (hdg : decode cc pc = .ok (.invokestatic index, 3)) {v : Int32} (hv : (if x < y then y else x) = v)
    (kk : W p l e R s m args below meth c H locs cells slots Q (F0 m (pc + 3) ls (.int v :: rest))) : W p l e R s m args below meth c H locs cells slots Q (F0 m pc ls (.int y :: .int x :: rest)) := by
  subst hv
  exact va_mmax C.hx C.hb (C.2.2.1.trans hsize.symm) C.hown (C.ws _ hl) (C.ws _ hst) (C.ws _ hini) (C.ws _ hcode) hf hlo hc hs hdg kk
theorem x_mmin (C : XC p s m args meth c own cc nL ret E base) {index : Nat} (hl : Cond.methodLink own index Lib.Math.min.name ∈ WS) (hst : Cond.static Lib.Math.min.name ∈ WS) (hini : Cond.initialized "java/lang/Math" ∈ WS) (hcode : Cond.code Lib.Math.min.name Lib.Math.min.code 2 (some .int) ∈ WS) (hsize : ls.size = nL) (hf : 1 ≤ R.frames) (hlo : (rest.map fun v => v.category).sum + 13 ≤ R.locals) (hc : cells ≤ R.cells) (hs : slots ≤ R.slots) {x y : Int32} (hdg : decode cc pc = .ok (.invokestatic index, 3)) {v : Int32} (hv : (if y < x then y else x) = v)
    (kk : W p l e R s m args below meth c H locs cells slots Q (F0 m (pc + 3) ls (.int v :: rest))) : W p l e R s m args below meth c H locs cells slots Q (F0 m pc ls (.int y :: .int x :: rest)) := by
  subst hv
  exact va_mmin C.hx C.hb (C.2.2.1.trans hsize.symm) C.hown (C.ws _ hl) (C.ws _ hst) (C.ws _ hini) (C.ws _ hcode) hf hlo hc hs hdg kk
abbrev gcN : MethodName := ⟨"java/lang/Object", "getClass", "()Ljava/lang/Class;"⟩
theorem x_getC (C : XC p s m args meth c own cc nL ret E base) (hH : xH E base al w H) {t : Tg} {n : Nat} {f : Nat → Option Nat} (ht : w t = some (.inl (E.2.1 5, n, .inr (.inr (.inr (.inr f)))))) {index : Nat} (hl : Cond.methodLink own index gcN ∈ WS) (hdc : Cond.declares gcN ∈ NB) (hsel : Cond.selects "[Ljava/lang/Object;" gcN gcN ∈ WS) (hin : Cond.instanceMethod gcN ∈ WS) (hna : Cond.native gcN ∈ NB) (hsize : ls.size = nL) (hf : 1 ≤ R.frames) (hlo : (rest.map fun v => v.category).sum + 14 ≤ R.locals) (hdg : decode cc pc = .ok (.invokevirtual index, 3))
    (kk : W p l e R s m args below meth c H locs cells slots Q (F0 m (pc + 3) ls (.ref (E.2.2 2) :: rest))) : W p l e R s m args below meth c H locs cells slots Q (F0 m pc ls (.ref (al t) :: rest)) := by
  have hfc : s.vm.findClass "[Ljava/lang/Object;" = some (E.2.1 5) := by
    obtain ⟨_, _, -, -, -, h4⟩ := (C.st.K.2 5 _ rfl).2
    exact h4
  exact va_getC C.hx C.hb (C.2.2.1.trans hsize.symm) C.hown (C.ws _ hl) ((C.st.nb hdc).use rfl) (C.ws _ hsel) (C.ws _ hin) ((C.st.nb hna).use rfl) C.st.2.2.2.2.2.1 ⟨_, (hH.1 t _ ht).2, rfl, hfc⟩ hf hlo hdg kk
theorem x_ldcM (C : XC p s m args meth c own cc nL ret E base) {index : Nat} (hl : Cond.classLink own index "[Ljava/lang/Object;" ∈ WS) (hdg : decode cc pc = .ok (.ldc index, 2))
    (kk : W p l e R s m args below meth c H locs cells slots Q (F0 m (pc + 2) ls (.ref (E.2.2 2) :: rest))) : W p l e R s m args below meth c H locs cells slots Q (F0 m pc ls rest) :=
  va_ldcM C.hx C.hb C.hown (C.ws _ hl) C.st.2.2.2.2.2.1 hdg kk
theorem x_copyq (C : XC p s m args meth c own cc nL ret E base) (hH : xH E base al w H) (hS : va_S (xA base) s.heap H locs) {index : Nat} (hl : Cond.methodLink own index arraycopyName ∈ WS) (hna : Cond.native arraycopyName ∈ NB) (hst : Cond.static arraycopyName ∈ WS) (hini : Cond.initialized "java/lang/System" ∈ WS) (hsize : ls.size = nL)
    {t0 t1 : Tg} {n0 n1 k ci : Nat} {f g : Nat → Option Nat} {r : vw_C} (ha0 : w t0 = some (.inl (E.2.1 5, n0, .inr (.inr (.inr (.inr f)))))) (ha1 : w t1 = some (.inl (E.2.1 5, n1, .inr (.inr (.inr (.inr g)))))) (hk0 : k ≤ n0) (hk1 : k ≤ n1) (hb : n1 < 100000) (hc : vwCl[ci]? = some r) (hca : Cond.castable r.1 "java/lang/Object" ∈ NB) (hel : ∀ i : Nat, i < k → ∀ y : Nat, f i = some y → ∃ tv vs, al tv = y ∧ w tv = some (.inr (ci, vs)))
    (hframes : 1 ≤ R.frames) (hlocals : (rest.map fun v => v.category).sum + (nativeFrameWords "java/lang/System" "arraycopy" 5 + 11) ≤ R.locals) (hdg : decode cc pc = .ok (.invokestatic index, 3))
    (kk : ∀ (H1 : Heap) (locs1 : List Loc), xH E base al (xu w t1 (.inl (E.2.1 5, n1, .inr (.inr (.inr (.inr (fun i => if i < k then f i else g i))))))) H1 → va_S (xA base) s.heap H1 locs1 → W p l e R s m args below meth c H1 locs1 cells slots Q (F0 m (pc + 3) ls rest)) : W p l e R s m args below meth c H locs cells slots Q (F0 m pc ls (.int (nI k) :: .int (nI 0) :: .ref (al t1) :: .int (nI 0) :: .ref (al t0) :: rest)) := by
  have hkn : (nI k).toNatClampNeg = k := nI_clamp (by omega)
  have h00 : (nI 0).toNatClampNeg = 0 := nI_clamp (by omega)
  have nn : ∀ z : Int32, ¬ z < 0 → z.toInt = (z.toNatClampNeg : Int) := by
    intro z hz
    have hz0 : (0 : Int) ≤ z.toInt := by
      have := Int32.not_lt.mp hz
      simpa using Int32.le_iff_toInt_le.mp this
    show z.toInt = ((z.toInt.toNat : Nat) : Int)
    omega
  have h1 : ¬ nI 0 < 0 := nI_pos (by omega)
  have h3 : ¬ nI k < 0 := nI_pos (by omega)
  intro T hT X
  have hc0 : H[al t0]? = some (vp_cell (E.2.1 5) (n0, .inr (.inr (.inr (.inr f))))) := (hH.1 t0 _ ha0).2
  have hc1 : H[al t1]? = some (vp_cell (E.2.1 5) (n1, .inr (.inr (.inr (.inr g))))) := (hH.1 t1 _ ha1).2
  obtain ⟨-, k0, hk0', cm0, hkk0⟩ := (C.st.K.2 5 _ rfl).1 n0 (fun j => va_rf (f j))
  obtain ⟨-, k1, hk1', cm1, hkk1⟩ := (C.st.K.2 5 _ rfl).1 n1 (fun j => va_rf (g j))
  obtain ⟨vm', X', step⟩ := X.arraycopy C.hx C.hown (C.ws _ hl) ((C.st.nb hna).use rfl) (C.ws _ hst) (C.ws _ hini) (src := al t0) (dst := al t1) (cs := vp_cell (E.2.1 5) (n0, .inr (.inr (.inr (.inr f))))) (cd := vp_cell (E.2.1 5) (n1, .inr (.inr (.inr (.inr g))))) (srcPos := nI 0) (destPos := nI 0) (n := nI k) (by rw [hT]; exact hc0) (by rw [hT]; exact hc1)
    (fun _ h => by cases h) (fun _ h => by cases h) (fun h => by cases h) (fun h => by cases h) hk0' hk1' hkk0 hkk1 rfl h1 h1 h3
    (by rw [nn _ h1, nn _ h3, h00, hkn]; show ¬ _ > ((arrV (E.2.1 5) n0 (fun j => va_rf (f j))).slots.size : Int); rw [arrV_size]; omega)
    (by rw [nn _ h1, nn _ h3, h00, hkn]; show ¬ _ > ((arrV (E.2.1 5) n1 (fun j => va_rf (g j))).slots.size : Int); rw [arrV_size]; omega)
    (fun vm₁ hal i hi => by
      rw [hkn] at hi
      have e : (vp_cell (E.2.1 5) (n0, .inr (.inr (.inr (.inr f))))).slots.getD ((nI 0).toNatClampNeg + i) .null = va_rf (f i) := by
        show (arrV (E.2.1 5) n0 (fun j => va_rf (f j))).slots.getD _ _ = _
        rw [h00, Nat.zero_add, Array.getD_eq_getD_getElem?, arrV_read _ _ (by omega)]
        rfl
      rw [e]
      cases hy : f i with
      | none => exact ⟨rfl, trivial⟩
      | some y =>
        obtain ⟨tv, vs, hav, hwv⟩ := hel i hi y hy
        obtain ⟨cellV, g1, g2, g3⟩ := va_recv C.st.K (hH.P hwv) hc (q0 := 0) rfl
        rw [hav] at g1
        obtain ⟨kA, comp, r1, r2, r3, -⟩ := (C.st.K.2 5 _ rfl).2
        cases hk1'.symm.trans r1
        cases hkk1.symm.trans r2
        obtain ⟨kC, hkC, -⟩ := Vm.findClass_spec g3
        obtain ⟨kE, hkE, -⟩ := Vm.findClass_spec r3
        obtain ⟨kC', hkC', -⟩ := hal.2.2 _ _ hkC
        obtain ⟨kE', hkE', -⟩ := hal.2.2 _ _ hkE
        refine ⟨rfl, cellV, (show T.heap[y]? = some cellV by rw [hT]; exact g1), (fun q h => by rw [h] at g2; cases g2), ⟨kC', hkC'⟩, ?_, ?_⟩
        · exact ⟨kE', hkE'⟩
        · show vm₁.assignable _ _ = true
          rw [hal.assignable]
          exact vb_asgC (C.st.nb hca) _ _ r3 g3)
    (g := F0 m pc ls (.int (nI k) :: .int (nI 0) :: .ref (al t1) :: .int (nI 0) :: .ref (al t0) :: rest)) rfl (by rw [C.2.2.1]; exact hsize) (rest := rest) rfl (by rw [C.hb]; exact hdg) hframes (by show 2 * 0 + _ + _ ≤ _; omega)
  have e1 : copied (vp_cell (E.2.1 5) (n0, .inr (.inr (.inr (.inr f))))) (vp_cell (E.2.1 5) (n1, .inr (.inr (.inr (.inr g))))) (nI 0) (nI 0) (nI k) = vp_cell (E.2.1 5) (n1, .inr (.inr (.inr (.inr (va_cpy f g (nI 0).toNatClampNeg (nI 0).toNatClampNeg (nI k).toNatClampNeg))))) := by
    rw [vp_cell_q, vp_cell_q, vp_cell_q]
    exact va_copied (fun z => va_rf z) (E.2.1 5) (E.2.1 5) f g (by rw [h00, hkn]; omega)
  have e2 : va_cpy f g (nI 0).toNatClampNeg (nI 0).toNatClampNeg (nI k).toNatClampNeg = fun i => if i < k then f i else g i := by
    funext i
    rw [h00, hkn]
    simp [va_cpy]
  rw [e2] at e1
  rw [e1] at X' step
  have hll : al t1 < H.size := (Array.getElem?_eq_some_iff.mp hc1).1
  obtain ⟨CN, hCN⟩ : ∃ z, z = vp_cell (E.2.1 5) (n1, .inr (.inr (.inr (.inr (fun i => if i < k then f i else g i))))) := ⟨_, rfl⟩
  rw [← hCN] at X' step
  have hheap : ((T.setVm vm').setCell (al t1) CN).heap = H.setIfInBounds (al t1) CN := by rw [← hT]; rfl
  have oq : ∀ q : Nat, q ≠ al t1 → (H.setIfInBounds (al t1) CN)[q]? = H[q]? := fun q hq => by simp [Array.getElem?_setIfInBounds, Ne.symm hq]
  obtain ⟨t, a1, b1⟩ := kk _ _ (hH.set ha1 (show (H.setIfInBounds (al t1) CN)[al t1]? = some _ by rw [← hCN]; simp [Array.getElem?_setIfInBounds, hll]) oq) ⟨by simp; exact hS.1, fun q g1 g2 => by
      rw [oq q (fun e => g2 (by rw [e]; exact (hH.1 t1 _ ha1).1))]
      exact hS.2.1 q g1 g2, fun q hq => by
      rcases List.mem_append.mp hq with h | h
      · exact hS.2.2 q h
      · obtain ⟨z, -, hz⟩ := List.mem_map.mp h
        rw [← hz]
        exact (hH.1 t1 _ ha1).1⟩ _ hheap X'
  exact ⟨t, step t a1, b1⟩
end XR4
