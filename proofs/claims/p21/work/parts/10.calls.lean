/-! THE BASE, second part: making, entering, leaving, calling -/
theorem xH.kept {E : xE} {base : Nat} {al : Tg → Nat} {w : Tg → Option va_E} {H H1 : Heap} (h : xH E base al w H) (ho : ∀ q : Nat, q < H.size → H1[q]? = H[q]?) : xH E base al w H1 :=
  ⟨fun t e ht => ⟨(h.1 t e ht).1, (h.1 t e ht).2.kept (ho _ (h.lt ht))⟩, h.2⟩
section XR2
variable {p : Program} {l : Launch} {e : Env} {R : Room} {s : State} {m : MethodId} {args : Array Value} {below : List Frame} {meth : Method} {c : Code} {H : Heap} {locs : List Loc} {cells slots mc ms : Nat} {Q : State → Prop}
variable {cc : ByteArray} {pc nL : Nat} {ls : Array Slot} {rest : List Value} {own : String} {ret : Option FieldType} {E : xE} {base : Nat} {al : Tg → Nat} {w : Tg → Option va_E}
theorem xS_new {H1 : Heap} (hS : va_S (xA base) s.heap H locs) (hz : H1.size = H.size + 1) (ho : ∀ q : Nat, q < H.size → H1[q]? = H[q]?) : va_S (xA base) s.heap H1 locs :=
  ⟨Nat.le_trans hS.1 (by omega), fun x h1 h2 => (ho x (Nat.lt_of_lt_of_le h1 hS.1)).trans (hS.2.1 x h1 h2), hS.2.2⟩
theorem x_new (C : XC p s m args meth c own cc nL ret E base) (hH : xH E base al w H) (hS : va_S (xA base) s.heap H locs) (t : Tg) {C' : String} {T : u_T} {N ci index : Nat} (hc : vwCl[ci]? = some (C', T, N)) (hin : ∀ w ∈ u_ws C' T N, w ∈ WS) (ty : Nat → FieldType) (hty : ∀ k, k < N → parseFieldDescriptor (T k).2.2.1 = some (ty k)) (hcl : Cond.classLink own index C' ∈ WS) (hinst : Cond.instantiable C' N ∈ WS) (hini : Cond.initialized C' ∈ WS) {fs : List Value} (hfs : ∀ j, j < N → defaultValue (ty j) = vp_V fs j) (hcells : cells + 1 ≤ R.cells) (hslots : slots + N ≤ R.slots) (hdg : decode cc pc = .ok (.new index, 3))
    (kk : ∀ (H1 : Heap), xH E base (xa al t H.size) (xu w t (.inr (ci, fs))) H1 → va_S (xA base) s.heap H1 locs → W p l e R s m args below meth c H1 locs (cells + 1) (slots + N) Q (F0 m (pc + 3) ls (.ref (xa al t H.size t) :: rest))) : W p l e R s m args below meth c H locs cells slots Q (F0 m pc ls rest) := by
  have hKn := C.st.K.1 ci _ hc
  refine W.newcK C.hx C.hb C.hown (C.ws _ hcl) (C.ws _ hinst) (C.ws _ hini) rfl hdg hcells hslots hKn.2.1 rfl fun H1 kC hkC e1 z1 o1 => ?_
  have k1 := kk H1 (hH.new t (C.A hS) ⟨_, hc, (u_born ty C.ws hin hKn hkC e1 hty).to hfs⟩ o1) (xS_new hS z1 o1)
  rw [xa_self] at k1
  exact k1
theorem x_newa (C : XC p s m args meth c own cc nL ret E base) (hH : xH E base al w H) (hS : va_S (xA base) s.heap H locs) (t : Tg) (k0 : Nat) {atype : ArrayType} {ty : FieldType} (harr : Cond.arrayClass (newarray.typeOf atype) ∈ WS) (hty : newarray.typeOf atype = ty) (hk : (xtys E)[k0]? = some (E.2.1 k0, ty)) (hra : ∀ C0, ty ≠ .object C0)
    {n : Int32} {N' : Nat} {a0 : vp_A} (ha : ∀ cA : ClassId, vp_cell cA a0 = arrV cA N' (fun _ => defaultValue ty)) (hn : n = nI N') (hN : N' < 100000) (hcb : componentBytes ty ≤ 8) (hcells : cells + 1 ≤ R.cells) (hslots : slots + N' ≤ R.slots) (hdg : decode cc pc = .ok (.newarray atype, 2))
    (kk : ∀ (H1 : Heap), xH E base (xa al t H.size) (xu w t (.inl (E.2.1 k0, a0))) H1 → va_S (xA base) s.heap H1 locs → W p l e R s m args below meth c H1 locs (cells + 1) (slots + N') Q (F0 m (pc + 2) ls (.ref (xa al t H.size t) :: rest))) : W p l e R s m args below meth c H locs cells slots Q (F0 m pc ls (.int n :: rest)) := by
  subst hty hn
  have hb8 : N' * componentBytes (newarray.typeOf atype) ≤ 536870912 := Nat.le_trans (Nat.mul_le_mul_left N' hcb) (by omega)
  refine va_newaK C.hx C.hb (C.ws _ harr) rfl hdg rfl (nI_pos (by omega)) (nI_clamp (by omega)) hb8 hcells hslots rfl fun H1 cA e1 z1 o1 hAr hNm => ?_
  have hcA : cA = E.2.1 k0 := by
    have h2 := (C.st.K.2 k0 _ hk).2
    have h3 : s.vm.findClass ("[" ++ (newarray.typeOf atype).toString) = some (E.2.1 k0) := by
      revert h2
      unfold va_RA
      split
      · rename_i C0 heq; exact absurd heq (hra C0)
      · exact id
    exact Option.some.inj (hNm.symm.trans h3)
  subst hcA
  have k1 := kk H1 (hH.new t (C.A hS) (by show H1[H.size]? = some (vp_cell _ _); rw [ha]; exact e1) o1) (xS_new hS z1 o1)
  rw [xa_self] at k1
  exact k1
theorem x_newq (C : XC p s m args meth c own cc nL ret E base) (hH : xH E base al w H) (hS : va_S (xA base) s.heap H locs) (t : Tg) (k0 : Nat) {Cn : String} {index : Nat} (hcl : Cond.classLink own index Cn ∈ WS) (hao : va_AO Cn s) (hk : (xtys E)[k0]? = some (E.2.1 k0, .object Cn))
    {n : Int32} {N' : Nat} (hn : n = nI N') (hN : N' < 100000) (hcells : cells + 1 ≤ R.cells) (hslots : slots + N' ≤ R.slots) (hdg : decode cc pc = .ok (.anewarray index, 3))
    (kk : ∀ (H1 : Heap), xH E base (xa al t H.size) (xu w t (.inl (E.2.1 k0, N', .inr (.inr (.inr (.inr (fun _ => none))))))) H1 → va_S (xA base) s.heap H1 locs → W p l e R s m args below meth c H1 locs (cells + 1) (slots + N') Q (F0 m (pc + 3) ls (.ref (xa al t H.size t) :: rest))) : W p l e R s m args below meth c H locs cells slots Q (F0 m pc ls (.int n :: rest)) := by
  subst hn
  have hz : (nI N').toNatClampNeg = N' := nI_clamp (by omega)
  refine W.anew C.hx C.hb C.hown (C.ws _ hcl) (va_AO.use hao) rfl hdg rfl (nI_pos (by omega)) (by rw [hz]; omega) hcells (by rw [hz]; exact hslots) fun cA kA comp f1 f2 f3 f4 => ?_
  have hcA : cA = E.2.1 k0 := by
    obtain ⟨_, _, -, -, -, h4⟩ := (C.st.K.2 k0 _ hk).2
    exact Option.some.inj (f1.symm.trans h4)
  subst hcA
  rw [hz]
  generalize hH1 : H.push ({ cls := E.2.1 k0, slots := Array.replicate N' .null, vm := .none } : Cell) = H1
  have z1 : H1.size = H.size + 1 := by rw [← hH1, Array.size_push]
  have e1 : H1[H.size]? = some (arrV (E.2.1 k0) N' (fun _ => .null)) := by rw [← hH1, Array.getElem?_push_size, ← arrV_new]
  have o1 : ∀ q : Nat, q < H.size → H1[q]? = H[q]? := fun q hq => by rw [← hH1, Array.getElem?_push, if_neg (Nat.ne_of_lt hq)]
  have k1 := kk H1 (hH.new t (C.A hS) (by show H1[H.size]? = some (vp_cell _ _); rw [vp_cell_q]; exact e1) o1) (xS_new hS z1 o1)
  rw [xa_self] at k1
  exact k1
/-! leaving -/
theorem xQ_in {post : Option Value → Heap → Prop} {r : Option Value} (hS : va_S (xA base) s.heap H locs) (hp : post r H) : ∀ t : State, t.heap = H → s.WarmedH t.vm → xQ base post args s (.returned r) t :=
  fun t ht _ => ⟨⟨r, rfl, by rw [ht]; exact hp⟩, hS.F ht⟩
theorem x_reti {post : Option Value → Heap → Prop} {v : Int32} {ty : FieldType} (C : XC p s m args meth c own cc nL (some ty) E base) (hn : narrow ty (.int v) = .int v) (hS : va_S (xA base) s.heap H locs) (hc : cells ≤ mc) (hs : slots ≤ ms) (hdg : decode cc pc = .ok (.ireturn, 1)) (hp : post (some (.int v)) H) : W p l e R s m args below meth c H locs cells slots (MQ below (xQ base post) args s mc ms (xA base)) (F0 m pc ls [.int v]) :=
  W.widen hc hs (W.zret C.hx C.hb C.rt hn (xQ_in hS hp) hS.2.2 hdg C.locks)
theorem x_retv {post : Option Value → Heap → Prop} (C : XC p s m args meth c own cc nL none E base) (hS : va_S (xA base) s.heap H locs) (hc : cells ≤ mc) (hs : slots ≤ ms) (hdg : decode cc pc = .ok (.return_, 1)) (hp : post none H) : W p l e R s m args below meth c H locs cells slots (MQ below (xQ base post) args s mc ms (xA base)) (F0 m pc ls []) :=
  W.widen hc hs (W.vret C.hx C.hb C.rt (xQ_in hS hp) hS.2.2 hdg C.locks)
theorem x_retl {post : Option Value → Heap → Prop} {v : Int64} (C : XC p s m args meth c own cc nL (some .long) E base) (hS : va_S (xA base) s.heap H locs) (hc : cells ≤ mc) (hs : slots ≤ ms) (hdg : decode cc pc = .ok (.lreturn, 1)) (hp : post (some (.long v)) H) : W p l e R s m args below meth c H locs cells slots (MQ below (xQ base post) args s mc ms (xA base)) (F0 m pc ls [.long v]) :=
  W.widen hc hs (W.lret C.hx C.hb C.rt (xQ_in hS hp) hS.2.2 hdg C.locks)
theorem x_reta {post : Option Value → Heap → Prop} {v : Value} {rt : FieldType} (C : XC p s m args meth c own cc nL (some rt) E base) (hrt : (∃ n, rt = .object n) ∨ ∃ t, rt = .array t) (hv : v = .null ∨ ∃ a, v = .ref a) (hS : va_S (xA base) s.heap H locs) (hc : cells ≤ mc) (hs : slots ≤ ms) (hdg : decode cc pc = .ok (.areturn, 1)) (hp : post (some v) H) : W p l e R s m args below meth c H locs cells slots (MQ below (xQ base post) args s mc ms (xA base)) (F0 m pc ls [v]) :=
  W.widen hc hs (W.aret C.hx C.hb C.rt hrt hv (xQ_in hS hp) hS.2.2 hdg C.locks)
theorem x_init (C : XC p s m args meth c own cc nL ret E base) {idx a : Nat} (hl : Cond.methodLink own idx Lib.objectInit ∈ WS) (hi : Cond.instanceMethod Lib.objectInit ∈ WS) (hcd : Cond.code Lib.objectInit ⟨#[0xb1]⟩ 1 none ∈ WS) (hsize : ls.size = nL) (hd : decode cc pc = .ok (.invokespecial idx, 3)) (hf : 1 ≤ R.frames) (hlo : (rest.map fun v => v.category).sum + 12 ≤ R.locals)
    (kk : W p l e R s m args below meth c H locs cells slots Q (F0 m (pc + 3) ls rest)) : W p l e R s m args below meth c H locs cells slots Q (F0 m pc ls (.ref a :: rest)) :=
  W.objInit C.hx C.hb C.hown (C.ws _ hl) (C.ws _ hi) (C.ws _ hcd) rfl (hsize.trans C.2.2.1.symm) rfl hd hf (by show 2 * (F0 m pc ls rest).monitorRoom + _ + 12 ≤ _; simpa [JFrame.monitorRoom] using hlo) kk
/-! calls that return -/
theorem x_cont {a : Array Value} {post : Option Value → Heap → Prop} {st0 : List Value} (hr : va_Run p l e R s m args below meth c H locs cells slots mc ms (F0 m pc ls st0) rest (xQ base post a) (xA base)) (hS : va_S (xA base) s.heap H locs)
    (kk : ∀ (r : Option Value) (H1 : Heap) (locs1 : List Loc), post r H1 → va_S (xA base) s.heap H1 locs1 → W p l e R s m args below meth c H1 locs1 (cells + mc) (slots + ms) Q (F0 m (pc + 3) ls (r.toList ++ rest))) : W p l e R s m args below meth c H locs cells slots Q (F0 m pc ls st0) := by
  intro T hT X
  obtain ⟨v, st₀, t, T', L, h0, X', hL, e1, e2, ⟨⟨r, hv, hp⟩, hz, hk⟩, st⟩ := hr T hT X
  cases hv
  rw [h0] at hz hk
  obtain ⟨t2, a1, b1⟩ := kk v T'.heap (locs ++ L) (by rw [e1]; exact hp)
    ⟨Nat.le_trans hS.1 (by rw [e1]; exact hz), fun q h1 h2 => by rw [e1, hk q (Nat.lt_of_lt_of_le h1 hS.1) h2]; exact hS.2.1 q h1 h2, fun q hq => by
      rcases List.mem_append.mp hq with h | h
      · exact hS.2.2 q h
      · exact hL q h⟩ T' rfl X'
  exact ⟨t2, st t2 a1, b1⟩
end XR2
section XR3
variable {p : Program} {l : Launch} {e : Env} {R : Room} {s : State} {m : MethodId} {args : Array Value} {below : List Frame} {meth : Method} {c : Code} {H : Heap} {locs : List Loc} {cells slots : Nat} {Q : State → Prop}
variable {cc : ByteArray} {pc nL : Nat} {ls : Array Slot} {st0 : List Value} {own : String} {ret : Option FieldType} {E : xE} {base : Nat} {al : Tg → Nat} {w : Tg → Option va_E}
variable {y : MethodName} {b : ByteArray} {n k index : Nat} {ry : Option FieldType} {rm : Room} {As : List Value} {P : Heap → Prop} {post : Option Value → Heap → Prop}
theorem x_callV (C : XC p s m args meth c own cc nL ret E base) (hH : xH E base al w H) (hS : va_S (xA base) s.heap H locs) {t : Tg} {ci : Nat} {fs : List Value} {r : vw_C} (ht : w t = some (.inr (ci, fs))) (hc : vwCl[ci]? = some r) (hcls : r.1 = y.cls) (hM : xMet l y b n ry rm E base (.ref (al t) :: As) P post) (hP : P H)
    (hy : xY y b n ry k) (hin : Cond.instanceMethod y ∈ WS) (hsel : Cond.selects y.cls y y ∈ WS) (hl : Cond.methodLink own index y ∈ WS) (hk : As.length = k) (rest : List Value) (hst : st0 = As.reverse ++ .ref (al t) :: rest) (hsize : ls.size = nL) (h8 : (rest.map fun v => v.category).sum ≤ 8) (hR : rm.frames + 1 ≤ R.frames ∧ 8 + (n + 11) + rm.locals ≤ R.locals) (hdg : decode cc pc = .ok (.invokevirtual index, 3)) (hf : cells + rm.cells ≤ R.cells ∧ slots + rm.slots ≤ R.slots)
    (kk : ∀ (r : Option Value) (H1 : Heap) (locs1 : List Loc), post r H1 → va_S (xA base) s.heap H1 locs1 → W p l e R s m args below meth c H1 locs1 (cells + rm.cells) (slots + rm.slots) Q (F0 m (pc + 3) ls (r.toList ++ rest))) : W p l e R s m args below meth c H locs cells slots Q (F0 m pc ls st0) := by
  have recv := va_recv C.st.K (hH.P ht) hc (q0 := 0) rfl
  rw [hcls] at recv
  refine x_cont (va_runV (As := As) (rest := rest) (C := y.cls) (n := k) C.fix hM ⟨⟨rfl, rfl, hR.1, hR.2, pay_in C.ws (ws_self y b n ry hy.1), List.mem_cons_self, C.ws _ hy.1, C.ws _ hy.2.1, ⟨hy.2.2.1, hy.2.2.2.1⟩, fun sig h => ?_, C.ws _ hl⟩, C.ws _ hin, C.ws _ hsel⟩ ⟨xPc_blind E base _ P, recv, fun U hU hW => ⟨rfl, C.at hS hU hW, by rw [hU]; exact hP⟩⟩ rfl hk hsize hst (lv_room h8) hdg hf) hS kk
  have h2 := hy.2.2.2.2
  rw [h] at h2
  exact (Option.some.inj h2).symm
theorem x_callI (C : XC p s m args meth c own cc nL ret E base) (hS : va_S (xA base) s.heap H locs) {a : Nat} (hM : xMet l y b n none rm E base (.ref a :: As) P post) (hP : P H)
    (hy : xY y b n none k) (hin : Cond.instanceMethod y ∈ WS) (hnm : y.name = "<init>") (hl : Cond.methodLink own index y ∈ WS) (hk : As.length = k) (rest : List Value) (hst : st0 = As.reverse ++ .ref a :: rest) (hsize : ls.size = nL) (h8 : (rest.map fun v => v.category).sum ≤ 8) (hR : rm.frames + 1 ≤ R.frames ∧ 8 + (n + 11) + rm.locals ≤ R.locals) (hdg : decode cc pc = .ok (.invokespecial index, 3)) (hf : cells + rm.cells ≤ R.cells ∧ slots + rm.slots ≤ R.slots)
    (kk : ∀ (r : Option Value) (H1 : Heap) (locs1 : List Loc), post r H1 → va_S (xA base) s.heap H1 locs1 → W p l e R s m args below meth c H1 locs1 (cells + rm.cells) (slots + rm.slots) Q (F0 m (pc + 3) ls (r.toList ++ rest))) : W p l e R s m args below meth c H locs cells slots Q (F0 m pc ls st0) := by
  refine x_cont (va_runI (As := As) (rest := rest) (n := k) C.fix hM ⟨⟨rfl, rfl, hR.1, hR.2, pay_in C.ws (ws_self y b n none hy.1), List.mem_cons_self, C.ws _ hy.1, C.ws _ hy.2.1, ⟨hy.2.2.1, hy.2.2.2.1⟩, fun sig h => ?_, C.ws _ hl⟩, hnm, C.ws _ hin⟩ ⟨xPc_blind E base _ P, fun U hU hW => ⟨rfl, C.at hS hU hW, by rw [hU]; exact hP⟩⟩ rfl hk hsize hst (lv_room h8) hdg hf) hS kk
  have h2 := hy.2.2.2.2
  rw [h] at h2
  exact (Option.some.inj h2).symm
theorem x_callIN (C : XC p s m args meth c own cc nL ret E base) (hS : va_S (xA base) s.heap H locs) {a : Nat} {host : String} (hM : xMet l y b n none rm E base (.ref a :: As) P post) (hP : P H)
    (hy : xY y b n none k) (hin : Cond.instanceMethod y ∈ WS) (hnm : y.name = "<init>") (hl : Cond.methodLinkNest own index y host ∈ NB) (hk : As.length = k) (rest : List Value) (hst : st0 = As.reverse ++ .ref a :: rest) (hsize : ls.size = nL) (h8 : (rest.map fun v => v.category).sum ≤ 8) (hR : rm.frames + 1 ≤ R.frames ∧ 8 + (n + 11) + rm.locals ≤ R.locals) (hdg : decode cc pc = .ok (.invokespecial index, 3)) (hf : cells + rm.cells ≤ R.cells ∧ slots + rm.slots ≤ R.slots)
    (kk : ∀ (r : Option Value) (H1 : Heap) (locs1 : List Loc), post r H1 → va_S (xA base) s.heap H1 locs1 → W p l e R s m args below meth c H1 locs1 (cells + rm.cells) (slots + rm.slots) Q (F0 m (pc + 3) ls (r.toList ++ rest))) : W p l e R s m args below meth c H locs cells slots Q (F0 m pc ls st0) := by
  refine x_cont (va_runIN (As := As) (rest := rest) (n := k) (host := host) C.fix hM ⟨⟨⟨rfl, rfl, hR.1, hR.2, pay_in C.ws (ws_self y b n none hy.1), List.mem_cons_self⟩, C.ws _ hy.1, C.ws _ hy.2.1, ⟨hy.2.2.1, hy.2.2.2.1⟩, fun sig h => ?_, (C.st.nb hl).use rfl⟩, hnm, C.ws _ hin⟩ ⟨xPc_blind E base _ P, fun U hU hW => ⟨rfl, C.at hS hU hW, by rw [hU]; exact hP⟩⟩ rfl hk hsize hst (lv_room h8) hdg hf) hS kk
  have h2 := hy.2.2.2.2
  rw [h] at h2
  exact (Option.some.inj h2).symm
theorem x_callS (C : XC p s m args meth c own cc nL ret E base) (hS : va_S (xA base) s.heap H locs) (hM : xMet l y b n ry rm E base As P post) (hP : P H)
    (hy : xY y b n ry k) (hstt : Cond.static y ∈ WS) (hl : Cond.methodLink own index y ∈ WS) (hk : As.length = k) (rest : List Value) (hst : st0 = As.reverse ++ rest) (hsize : ls.size = nL) (h8 : (rest.map fun v => v.category).sum ≤ 8) (hR : rm.frames + 1 ≤ R.frames ∧ 8 + (n + 11) + rm.locals ≤ R.locals) (hdg : decode cc pc = .ok (.invokestatic index, 3)) (hf : cells + rm.cells ≤ R.cells ∧ slots + rm.slots ≤ R.slots)
    (kk : ∀ (r : Option Value) (H1 : Heap) (locs1 : List Loc), post r H1 → va_S (xA base) s.heap H1 locs1 → W p l e R s m args below meth c H1 locs1 (cells + rm.cells) (slots + rm.slots) Q (F0 m (pc + 3) ls (r.toList ++ rest))) : W p l e R s m args below meth c H locs cells slots Q (F0 m pc ls st0) := by
  refine x_cont (va_runS (As := As) (rest := rest) (n := k) C.fix hM ⟨⟨rfl, rfl, hR.1, hR.2, pay_in C.ws (ws_self y b n ry hy.1), List.mem_cons_self, C.ws _ hy.1, C.ws _ hy.2.1, ⟨hy.2.2.1, hy.2.2.2.1⟩, fun sig h => ?_, C.ws _ hl⟩, C.ws _ hstt⟩ ⟨xPc_blind E base _ P, fun U hU hW => ⟨rfl, C.at hS hU hW, by rw [hU]; exact hP⟩⟩ rfl hk hsize hst (lv_room h8) hdg hf) hS kk
  have h2 := hy.2.2.2.2
  rw [h] at h2
  exact (Option.some.inj h2).symm
theorem x_callSN (C : XC p s m args meth c own cc nL ret E base) (hS : va_S (xA base) s.heap H locs) {host : String} (hM : xMet l y b n ry rm E base As P post) (hP : P H)
    (hy : xY y b n ry k) (hstt : Cond.static y ∈ WS) (hl : Cond.methodLinkNest own index y host ∈ NB) (hk : As.length = k) (rest : List Value) (hst : st0 = As.reverse ++ rest) (hsize : ls.size = nL) (h8 : (rest.map fun v => v.category).sum ≤ 8) (hR : rm.frames + 1 ≤ R.frames ∧ 8 + (n + 11) + rm.locals ≤ R.locals) (hdg : decode cc pc = .ok (.invokestatic index, 3)) (hf : cells + rm.cells ≤ R.cells ∧ slots + rm.slots ≤ R.slots)
    (kk : ∀ (r : Option Value) (H1 : Heap) (locs1 : List Loc), post r H1 → va_S (xA base) s.heap H1 locs1 → W p l e R s m args below meth c H1 locs1 (cells + rm.cells) (slots + rm.slots) Q (F0 m (pc + 3) ls (r.toList ++ rest))) : W p l e R s m args below meth c H locs cells slots Q (F0 m pc ls st0) := by
  refine x_cont (va_runSN (As := As) (rest := rest) (n := k) (host := host) C.fix hM ⟨⟨⟨rfl, rfl, hR.1, hR.2, pay_in C.ws (ws_self y b n ry hy.1), List.mem_cons_self⟩, C.ws _ hy.1, C.ws _ hy.2.1, ⟨hy.2.2.1, hy.2.2.2.1⟩, fun sig h => ?_, (C.st.nb hl).use rfl⟩, C.ws _ hstt, trivial⟩ ⟨xPc_blind E base _ P, fun U hU hW => ⟨rfl, C.at hS hU hW, by rw [hU]; exact hP⟩⟩ rfl hk hsize hst (lv_room h8) hdg hf) hS kk
  have h2 := hy.2.2.2.2
  rw [h] at h2
  exact (Option.some.inj h2).symm
/-! calls that return or throw -/
variable {px : String → Heap → Prop}
theorem x_contX {a : Array Value} {mc ms : Nat} {rest : List Value} (hr : vx_Run p l e R s m args below meth c H locs cells slots mc ms (F0 m pc ls st0) rest (xQ base post a) (xX base px) (xA base)) (hS : va_S (xA base) s.heap H locs)
    (kx : ∀ (X : String) (ce : Cell) (q9 : Addr) (H1 : Heap) (locs1 : List Loc), px X H1 → va_S (xA base) s.heap H1 locs1 → H1[q9]? = some ce → ce.vm = .none → s.vm.findClass X = some ce.cls → vx_W p l e R s m args below meth c H1 locs1 (cells + mc) (slots + ms) Q (F0 m pc ls rest) q9)
    (kk : ∀ (r : Option Value) (H1 : Heap) (locs1 : List Loc), post r H1 → va_S (xA base) s.heap H1 locs1 → W p l e R s m args below meth c H1 locs1 (cells + mc) (slots + ms) Q (F0 m (pc + 3) ls (r.toList ++ rest))) : W p l e R s m args below meth c H locs cells slots Q (F0 m pc ls st0) := by
  have key : ∀ (st₀ t T' : State) (L : List Loc), st₀.heap = H → T'.heap = t.heap → (∀ z ∈ L, xA base z.base) → va_F (xA base) st₀ t → va_S (xA base) s.heap T'.heap (locs ++ L) := by
    intro st₀ t T' L h0 e1 hL hF
    obtain ⟨hz, hk⟩ := hF
    rw [h0] at hz hk
    exact ⟨Nat.le_trans hS.1 (by rw [e1]; exact hz), fun q h1 h2 => by rw [e1, hk q (Nat.lt_of_lt_of_le h1 hS.1) h2]; exact hS.2.1 q h1 h2, fun q hq => by
      rcases List.mem_append.mp hq with h | h
      · exact hS.2.2 q h
      · exact hL q h⟩
  intro T hT X
  rcases hr T hT X with ⟨v, st₀, t, T', L, h0, X', hL, e1, e2, ⟨⟨r, hv, hp⟩, hF⟩, st⟩ | ⟨q, st₀, t, T', L, E', ce, h0, X', hL, e1, e2, ⟨hp, hF⟩, hce, hcv, hcl, st⟩
  · cases hv
    obtain ⟨t2, a1, b1⟩ := kk v T'.heap (locs ++ L) (by rw [e1]; exact hp) (key _ _ _ _ h0 e1 hL hF) T' rfl X'
    exact ⟨t2, st t2 a1, b1⟩
  · obtain ⟨t2, a1, b1⟩ := kx E' ce q T'.heap (locs ++ L) (by rw [e1]; exact hp) (key _ _ _ _ h0 e1 hL hF) (by rw [e1]; exact hce) hcv hcl T' rfl X'
    exact ⟨t2, st.trans a1, b1⟩
theorem x_thrV (C : XC p s m args meth c own cc nL ret E base) (hH : xH E base al w H) (hS : va_S (xA base) s.heap H locs) {t : Tg} {ci : Nat} {fs : List Value} {r : vw_C} (ht : w t = some (.inr (ci, fs))) (hc : vwCl[ci]? = some r) (hcls : r.1 = y.cls) (hM : xMetX l y b n ry rm E base (.ref (al t) :: As) P post px) (hP : P H)
    (hy : xY y b n ry k) (hin : Cond.instanceMethod y ∈ WS) (hsel : Cond.selects y.cls y y ∈ WS) (hl : Cond.methodLink own index y ∈ WS) (hk : As.length = k) (rest : List Value) (hst : st0 = As.reverse ++ .ref (al t) :: rest) (hsize : ls.size = nL) (h8 : (rest.map fun v => v.category).sum ≤ 8) (hR : rm.frames + 1 ≤ R.frames ∧ 8 + (n + 11) + rm.locals ≤ R.locals) (hdg : decode cc pc = .ok (.invokevirtual index, 3)) (hf : cells + rm.cells ≤ R.cells ∧ slots + rm.slots ≤ R.slots)
    (kx : ∀ (X : String) (ce : Cell) (q9 : Addr) (H1 : Heap) (locs1 : List Loc), px X H1 → va_S (xA base) s.heap H1 locs1 → H1[q9]? = some ce → ce.vm = .none → s.vm.findClass X = some ce.cls → vx_W p l e R s m args below meth c H1 locs1 (cells + rm.cells) (slots + rm.slots) Q (F0 m pc ls rest) q9)
    (kk : ∀ (r : Option Value) (H1 : Heap) (locs1 : List Loc), post r H1 → va_S (xA base) s.heap H1 locs1 → W p l e R s m args below meth c H1 locs1 (cells + rm.cells) (slots + rm.slots) Q (F0 m (pc + 3) ls (r.toList ++ rest))) : W p l e R s m args below meth c H locs cells slots Q (F0 m pc ls st0) := by
  have recv := va_recv C.st.K (hH.P ht) hc (q0 := 0) rfl
  rw [hcls] at recv
  refine x_contX (vx_runV (As := As) (rest := rest) (C := y.cls) (n := k) C.fix hM ⟨⟨rfl, rfl, hR.1, hR.2, pay_in C.ws (ws_self y b n ry hy.1), List.mem_cons_self, C.ws _ hy.1, C.ws _ hy.2.1, ⟨hy.2.2.1, hy.2.2.2.1⟩, fun sig h => ?_, C.ws _ hl⟩, C.ws _ hin, C.ws _ hsel⟩ ⟨xPc_blind E base _ P, recv, fun U hU hW => ⟨rfl, C.at hS hU hW, by rw [hU]; exact hP⟩⟩ rfl hk hsize hst (lv_room h8) hdg hf) hS kx kk
  have h2 := hy.2.2.2.2
  rw [h] at h2
  exact (Option.some.inj h2).symm
theorem x_thrS (C : XC p s m args meth c own cc nL ret E base) (hS : va_S (xA base) s.heap H locs) (hM : xMetX l y b n ry rm E base As P post px) (hP : P H)
    (hy : xY y b n ry k) (hstt : Cond.static y ∈ WS) (hl : Cond.methodLink own index y ∈ WS) (hk : As.length = k) (rest : List Value) (hst : st0 = As.reverse ++ rest) (hsize : ls.size = nL) (h8 : (rest.map fun v => v.category).sum ≤ 8) (hR : rm.frames + 1 ≤ R.frames ∧ 8 + (n + 11) + rm.locals ≤ R.locals) (hdg : decode cc pc = .ok (.invokestatic index, 3)) (hf : cells + rm.cells ≤ R.cells ∧ slots + rm.slots ≤ R.slots)
    (kx : ∀ (X : String) (ce : Cell) (q9 : Addr) (H1 : Heap) (locs1 : List Loc), px X H1 → va_S (xA base) s.heap H1 locs1 → H1[q9]? = some ce → ce.vm = .none → s.vm.findClass X = some ce.cls → vx_W p l e R s m args below meth c H1 locs1 (cells + rm.cells) (slots + rm.slots) Q (F0 m pc ls rest) q9)
    (kk : ∀ (r : Option Value) (H1 : Heap) (locs1 : List Loc), post r H1 → va_S (xA base) s.heap H1 locs1 → W p l e R s m args below meth c H1 locs1 (cells + rm.cells) (slots + rm.slots) Q (F0 m (pc + 3) ls (r.toList ++ rest))) : W p l e R s m args below meth c H locs cells slots Q (F0 m pc ls st0) := by
  refine x_contX (vx_runS (As := As) (rest := rest) (n := k) C.fix hM ⟨⟨rfl, rfl, hR.1, hR.2, pay_in C.ws (ws_self y b n ry hy.1), List.mem_cons_self, C.ws _ hy.1, C.ws _ hy.2.1, ⟨hy.2.2.1, hy.2.2.2.1⟩, fun sig h => ?_, C.ws _ hl⟩, C.ws _ hstt⟩ ⟨xPc_blind E base _ P, fun U hU hW => ⟨rfl, C.at hS hU hW, by rw [hU]; exact hP⟩⟩ rfl hk hsize hst (lv_room h8) hdg hf) hS kx kk
  have h2 := hy.2.2.2.2
  rw [h] at h2
  exact (Option.some.inj h2).symm
end XR3
/-! entering -/
theorem xMet.of {l : Launch} {y : MethodName} {cc : ByteArray} {n : Nat} {ret : Option FieldType} {rm : Room} {E : xE} {base : Nat} {As : List Value} {P : Heap → Prop} {post : Option Value → Heap → Prop} (hy : plainName y.cls = true) (own : String) (ho : y.cls = own) (hn : (lg_sl As).length ≤ n)
    (body : ∀ (p : Program) (e : Env) (s : State) (m : MethodId) (below : List Frame) (meth : Method) (c : Code) (ls : Array Slot), XC p s m As.toArray meth c own cc n ret E base → meth.name = y.name → P s.heap → va_S (xA base) s.heap s.heap [] → lv_has ls n (lv_args 0 As) →
      W p l e rm s m As.toArray below meth c s.heap [] 0 0 (MQ below (xQ base post) As.toArray s rm.cells rm.slots (xA base)) (F0 m 0 ls [])) : xMet l y cc n ret rm E base As P post := by
  refine Met.ofW (cc := cc) (maxL := n) (ret := ret) hy rfl ?_
  intro p e s m args below meth c s₁ B hml hv
  obtain ⟨rfl, hst, hP⟩ := hv
  have hts := atoms_spec (ws := .code y cc n ret :: WS) B.pre
  have hown : s.vm.findClass y.cls = some m.cls := findClass_of_methodNamed B.named
  rw [ho] at hown
  rw [lg_entry_eq]
  exact body p e s m below meth c _ ⟨B.exec, B.bytes, hml, hown, fun w hw => hts w (List.mem_cons_of_mem _ hw), B.notSynchronized, B.returns, hst⟩ (name_of_methodNamed B.named B.method).1 hP va_S.rf (lv_entry As (n := n) hn)
theorem xMetX.of {l : Launch} {y : MethodName} {cc : ByteArray} {n : Nat} {ret : Option FieldType} {rm : Room} {E : xE} {base : Nat} {As : List Value} {P : Heap → Prop} {post : Option Value → Heap → Prop} {px : String → Heap → Prop} (hy : plainName y.cls = true) (own : String) (ho : y.cls = own) (hn : (lg_sl As).length ≤ n)
    (body : ∀ (p : Program) (e : Env) (s : State) (m : MethodId) (below : List Frame) (meth : Method) (c : Code) (ls : Array Slot), XC p s m As.toArray meth c own cc n ret E base → (∀ x ∈ c.exceptionTable.toList, False) → P s.heap → va_S (xA base) s.heap s.heap [] → lv_has ls n (lv_args 0 As) →
      W p l e rm s m As.toArray below meth c s.heap [] 0 0 (vx_MQ below (xQ base post) (xX base px) As.toArray s rm.cells rm.slots (xA base)) (F0 m 0 ls [])) : xMetX l y cc n ret rm E base As P post px := by
  refine vx_ofW (cc := cc) (maxL := n) (ret := ret) hy rfl ?_
  intro p e s m args below meth c s₁ B hml het hv
  obtain ⟨rfl, hst, hP⟩ := hv
  have hts := atoms_spec (ws := .code y cc n ret :: WS) B.pre
  have hown : s.vm.findClass y.cls = some m.cls := findClass_of_methodNamed B.named
  rw [ho] at hown
  rw [lg_entry_eq]
  exact body p e s m below meth c _ ⟨B.exec, B.bytes, hml, hown, fun w hw => hts w (List.mem_cons_of_mem _ hw), B.notSynchronized, B.returns, hst⟩ het hP va_S.rf (lv_entry As (n := n) hn)
