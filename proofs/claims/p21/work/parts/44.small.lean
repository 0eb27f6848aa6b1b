/-! the law's small ones: low and cell -/
def lowf (v n : Int32) : Int32 := (v &&& 2147483647) - (v &&& 2147483647) / n * n
set_option maxHeartbeats 4000000 in
theorem c_low (l : Launch) {E : xE} {base : Nat} {P : Heap → Prop} {v n : Int32} (hn : ¬ n = 0) : xMet l yL_low cL_low 2 (some (.int)) ({ frames := 0, cells := 0, slots := 0, locals := 0 } : Room) E base [.int v, .int n] P (fun r H => r = some (.int (lowf v n)) ∧ P H) := by
  refine xMet.of (by decide +kernel) "DataroomLaw" rfl (Nat.le_of_ble_eq_true rfl) ?_
  intro p9 e9 s m9 below meth c9 ls C hin hP hS hl
  have hx := C.hx
  have hb := C.hb
  have hl : lv_has ls 2 [(0, .int v), (1, .int n)] := hl
  refine lv_iload_n hx hb dL_low_0 rfl (lv_at hl 0 rfl) ?_
  refine lv_ldc (v := 2147483647) hx hb C.hown (C.ws _ qw_115) dL_low_1 ?_
  refine lv_iand hx hb dL_low_3 ?_
  refine lv_iload_n hx hb dL_low_4 rfl (lv_at hl 1 rfl) ?_
  refine lv_irem hx hb dL_low_5 hn ?_
  exact x_reti C rfl hS (Nat.le_of_ble_eq_true rfl) (Nat.le_of_ble_eq_true rfl) dL_low_6 ⟨rfl, hP⟩
abbrev xMetU (l : Launch) (y : MethodName) (cc : ByteArray) (n : Nat) (ret : Option FieldType) (rm : Room) (E : xE) (base : Nat) (As : List Value) (B : State → Prop) (post : Option Value → Heap → Prop) : Prop :=
  Met l y (.code y cc n ret :: WS) rm (va_Pc As (fun U => xSt E base U ∧ B U)) (xQ base post) rm.cells rm.slots (xA base)
theorem xMetU.of {l : Launch} {y : MethodName} {cc : ByteArray} {n : Nat} {ret : Option FieldType} {rm : Room} {E : xE} {base : Nat} {As : List Value} {B : State → Prop} {post : Option Value → Heap → Prop} (hy : plainName y.cls = true) (own : String) (ho : y.cls = own) (hn : (lg_sl As).length ≤ n)
    (body : ∀ (p : Program) (e : Env) (s : State) (m : MethodId) (below : List Frame) (meth : Method) (c : Code) (ls : Array Slot), XC p s m As.toArray meth c own cc n ret E base → B s → va_S (xA base) s.heap s.heap [] → lv_has ls n (lv_args 0 As) →
      W p l e rm s m As.toArray below meth c s.heap [] 0 0 (MQ below (xQ base post) As.toArray s rm.cells rm.slots (xA base)) (F0 m 0 ls [])) : xMetU l y cc n ret rm E base As B post := by
  refine Met.ofW (cc := cc) (maxL := n) (ret := ret) hy rfl ?_
  intro p e s m args below meth c s₁ B9 hml hv
  obtain ⟨rfl, hst, hP⟩ := hv
  have hts := atoms_spec (ws := .code y cc n ret :: WS) B9.pre
  have hown : s.vm.findClass y.cls = some m.cls := findClass_of_methodNamed B9.named
  rw [ho] at hown
  rw [lg_entry_eq]
  exact body p e s m below meth c _ ⟨B9.exec, B9.bytes, hml, hown, fun w hw => hts w (List.mem_cons_of_mem _ hw), B9.notSynchronized, B9.returns, hst⟩ hP va_S.rf (lv_entry As (n := n) hn)
def cB (b L : Nat) (xs : Nat → Int32) (P : Heap → Prop) (U : State) : Prop := va_X b L xs U U.heap ∧ P U.heap
set_option maxHeartbeats 4000000 in
theorem c_cell (l : Launch) {E : xE} {base b L : Nat} {xs : Nat → Int32} {P : Heap → Prop} {k : Nat} (hk : k < 1000) (hL : L < 1000) (hbb : b < base) : xMetU l yL_cell cL_cell 2 (some (.int)) ({ frames := 0, cells := 0, slots := 0, locals := 0 } : Room) E base [.ref b, .int (nI k)] (cB b L xs P) (fun r H => (∃ v : Int32, r = some (.int v)) ∧ P H) := by
  refine xMetU.of (by decide +kernel) "DataroomLaw" rfl (Nat.le_of_ble_eq_true rfl) ?_
  intro p9 e9 s m9 below meth c9 ls C hB hS hl
  have hx := C.hx
  have hb := C.hb
  obtain ⟨hX, hP⟩ := hB
  have hbl : b < s.heap.size := Nat.lt_of_lt_of_le hbb C.st.2.2.2.2.2.2.2.2.2.2.2.2.2.2
  have hbA : ¬ xA base b := Nat.not_le.mpr hbb
  have hl : lv_has ls 2 [(0, .ref b), (1, .int (nI k))] := hl
  have hr : ∀ v : Int32, W p9 l e9 ({ frames := 0, cells := 0, slots := 0, locals := 0 } : Room) s m9 [Value.ref b, Value.int (nI k)].toArray below meth c9 s.heap [] 0 0 (MQ below (xQ base (fun r H => (∃ v : Int32, r = some (.int v)) ∧ P H)) [Value.ref b, Value.int (nI k)].toArray s 0 0 (xA base)) (F0 m9 27 ls [.int v]) := fun v => x_reti C rfl hS (Nat.le_of_ble_eq_true rfl) (Nat.le_of_ble_eq_true rfl) dL_cell_27 ⟨⟨v, rfl⟩, hP⟩
  refine lv_iload_n hx hb dL_cell_0 rfl (lv_at hl 1 rfl) ?_
  refine lv_aload_n hx hb dL_cell_1 rfl (lv_at hl 0 rfl) ?_
  refine va_slen hx hb hX hbl hbA hS dL_cell_2 ?_
  refine lv_icmp_ge (tgt := 12) hx hb dL_cell_3 (by decide) (fun _ => ?_) (fun c => ?_)
  · refine lv_sipush (v := nI 7919) hx hb dL_cell_12 (by decide +kernel) ?_
    refine lv_iload_n hx hb dL_cell_15 rfl (lv_at hl 1 rfl) ?_
    refine lv_sipush (v := nI 2347) hx hb dL_cell_16 (by decide +kernel) ?_
    refine lv_iadd hx hb dL_cell_19 ?_
    refine lv_imul hx hb dL_cell_20 ?_
    refine lv_iload_n hx hb dL_cell_21 rfl (lv_at hl 1 rfl) ?_
    refine lv_sipush (v := nI 179) hx hb dL_cell_22 (by decide +kernel) ?_
    refine lv_iadd hx hb dL_cell_25 ?_
    refine lv_imul hx hb dL_cell_26 ?_
    exact hr _
  · have hlt : k < L := by
      rcases Nat.lt_or_ge k L with q | q
      · exact q
      · exact absurd (nI_le q (by omega)) c
    refine lv_aload_n hx hb dL_cell_6 rfl (lv_at hl 0 rfl) ?_
    refine lv_iload_n hx hb dL_cell_7 rfl (lv_at hl 1 rfl) ?_
    refine va_sld hx hb hX hbl hbA hS (vp_in_nI hlt (by omega)) dL_cell_8 ?_
    refine lv_goto (tgt := 27) hx hb dL_cell_9 (by decide) ?_
    exact hr _
section XCU
variable {p : Program} {l : Launch} {e : Env} {R : Room} {s : State} {m : MethodId} {args : Array Value} {below : List Frame} {meth : Method} {c : Code} {H : Heap} {locs : List Loc} {cells slots : Nat} {Q : State → Prop}
variable {cc : ByteArray} {pc nL : Nat} {ls : Array Slot} {st0 : List Value} {own : String} {ret : Option FieldType} {E : xE} {base : Nat}
variable {y : MethodName} {b : ByteArray} {n k index : Nat} {ry : Option FieldType} {rm : Room} {As : List Value} {B : State → Prop} {post : Option Value → Heap → Prop}
theorem x_callSU (C : XC p s m args meth c own cc nL ret E base) (hS : va_S (xA base) s.heap H locs) (hM : xMetU l y b n ry rm E base As B post) (hbl : ∀ (U : State) (g : JFrame) (mk : MethodId) (a : Array Value), B U → B (U.calling g mk a)) (hP : ∀ U : State, U.heap = H → s.WarmedH U.vm → B U)
    (hy : xY y b n ry k) (hstt : Cond.static y ∈ WS) (hl : Cond.methodLink own index y ∈ WS) (hk : As.length = k) (rest : List Value) (hst : st0 = As.reverse ++ rest) (hsize : ls.size = nL) (h8 : (rest.map fun v => v.category).sum ≤ 8) (hR : rm.frames + 1 ≤ R.frames ∧ 8 + (n + 11) + rm.locals ≤ R.locals) (hdg : decode cc pc = .ok (.invokestatic index, 3)) (hf : cells + rm.cells ≤ R.cells ∧ slots + rm.slots ≤ R.slots)
    (kk : ∀ (r : Option Value) (H1 : Heap) (locs1 : List Loc), post r H1 → va_S (xA base) s.heap H1 locs1 → W p l e R s m args below meth c H1 locs1 (cells + rm.cells) (slots + rm.slots) Q (F0 m (pc + 3) ls (r.toList ++ rest))) : W p l e R s m args below meth c H locs cells slots Q (F0 m pc ls st0) := by
  refine x_cont (va_runS (As := As) (rest := rest) (n := k) C.fix hM ⟨⟨rfl, rfl, hR.1, hR.2, pay_in C.ws (ws_self y b n ry hy.1), List.mem_cons_self, C.ws _ hy.1, C.ws _ hy.2.1, ⟨hy.2.2.1, hy.2.2.2.1⟩, fun sig h => ?_, C.ws _ hl⟩, C.ws _ hstt⟩ ⟨fun a U g mk h => ⟨h.1, h.2.1.same rfl rfl, hbl U g mk a h.2.2⟩, fun U hU hW => ⟨rfl, C.at hS hU hW, hP U hU hW⟩⟩ rfl hk hsize hst (lv_room h8) hdg hf) hS kk
  have h2 := hy.2.2.2.2
  rw [h] at h2
  exact (Option.some.inj h2).symm
end XCU
theorem cB_bl {b L : Nat} {xs : Nat → Int32} {P : Heap → Prop} : ∀ (U : State) (g : JFrame) (mk : MethodId) (a : Array Value), cB b L xs P U → cB b L xs P (U.calling g mk a) := fun U g mk a h => ⟨va_X.moved (Vm.Alike.refl _) h.1, h.2⟩
