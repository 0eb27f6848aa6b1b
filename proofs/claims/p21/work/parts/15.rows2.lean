theorem at_IAE : ∀ w ∈ Bundle.ownAtoms "Dataroom" 193 "java/lang/IllegalArgumentException" ["java/lang/RuntimeException", "java/lang/Exception"], vx_no w = true → (w ∈ WS ∨ w ∈ NB) := by
  refine List.forall_mem_append.mpr ⟨List.forall_mem_append.mpr ⟨List.forall_mem_append.mpr ⟨?_, ?_⟩, ?_⟩, ?_⟩
  · exact List.forall_mem_cons.mpr ⟨fun _ => Or.inl qw_7, List.forall_mem_cons.mpr ⟨fun _ => Or.inl qw_150, List.forall_mem_cons.mpr ⟨fun _ => Or.inl qw_159, List.forall_mem_cons.mpr ⟨fun _ => Or.inl qw_163, List.forall_mem_cons.mpr ⟨fun _ => Or.inl qw_166, List.forall_mem_cons.mpr ⟨fun _ => Or.inr nw_168, List.forall_mem_cons.mpr ⟨fun _ => Or.inl qw_151, List.forall_mem_cons.mpr ⟨fun _ => Or.inl qw_152, List.forall_mem_cons.mpr ⟨fun _ => Or.inl qw_30, List.forall_mem_cons.mpr ⟨fun _ => Or.inl qw_31, List.forall_mem_cons.mpr ⟨fun _ => Or.inl qw_153, List.forall_mem_cons.mpr ⟨fun _ => Or.inl qw_158, List.forall_mem_cons.mpr ⟨fun _ => Or.inl qw_164, List.forall_mem_cons.mpr ⟨fun _ => Or.inl qw_184, List.forall_mem_cons.mpr ⟨fun _ => Or.inl qw_140, List.forall_mem_cons.mpr ⟨fun _ => Or.inl qw_185, List.forall_mem_cons.mpr ⟨fun _ => Or.inl qw_142, List.forall_mem_cons.mpr ⟨fun _ => Or.inl qw_186, List.forall_mem_cons.mpr ⟨fun _ => Or.inl qw_144, List.forall_mem_cons.mpr ⟨fun _ => Or.inl qw_154, List.forall_mem_cons.mpr ⟨fun h => absurd h (by decide +kernel), List.forall_mem_cons.mpr ⟨fun _ => Or.inl qw_156, List.forall_mem_cons.mpr ⟨fun h => absurd h (by decide +kernel), List.forall_mem_cons.mpr ⟨fun _ => Or.inl qw_146, fun _ h => nomatch h⟩⟩⟩⟩⟩⟩⟩⟩⟩⟩⟩⟩⟩⟩⟩⟩⟩⟩⟩⟩⟩⟩⟩⟩
  · exact List.forall_mem_cons.mpr ⟨fun _ => Or.inl qw_180, List.forall_mem_cons.mpr ⟨fun _ => Or.inl qw_181, List.forall_mem_cons.mpr ⟨fun _ => Or.inl qw_183, List.forall_mem_cons.mpr ⟨fun _ => Or.inl qw_146, fun _ h => nomatch h⟩⟩⟩⟩
  · refine List.forall_mem_append.mpr ⟨?_, List.forall_mem_append.mpr ⟨?_, ?_⟩⟩
    · exact List.forall_mem_cons.mpr ⟨fun _ => Or.inl qw_171, List.forall_mem_cons.mpr ⟨fun _ => Or.inl qw_172, List.forall_mem_cons.mpr ⟨fun _ => Or.inl qw_173, List.forall_mem_cons.mpr ⟨fun _ => Or.inl qw_174, List.forall_mem_cons.mpr ⟨fun _ => Or.inr nw_132, fun _ h => nomatch h⟩⟩⟩⟩⟩
    · exact List.forall_mem_cons.mpr ⟨fun _ => Or.inl qw_174, List.forall_mem_cons.mpr ⟨fun _ => Or.inl qw_175, List.forall_mem_cons.mpr ⟨fun _ => Or.inl qw_176, List.forall_mem_cons.mpr ⟨fun _ => Or.inl qw_177, List.forall_mem_cons.mpr ⟨fun _ => Or.inr nw_134, fun _ h => nomatch h⟩⟩⟩⟩⟩
    · exact List.forall_mem_cons.mpr ⟨fun _ => Or.inl qw_177, List.forall_mem_cons.mpr ⟨fun _ => Or.inl qw_178, List.forall_mem_cons.mpr ⟨fun _ => Or.inl qw_179, List.forall_mem_cons.mpr ⟨fun _ => Or.inl qw_180, List.forall_mem_cons.mpr ⟨fun _ => Or.inr nw_136, fun _ h => nomatch h⟩⟩⟩⟩⟩
  · exact List.forall_mem_cons.mpr ⟨fun _ => Or.inl qw_170, List.forall_mem_cons.mpr ⟨fun _ => Or.inl qw_129, List.forall_mem_cons.mpr ⟨fun _ => Or.inr nw_130, List.forall_mem_cons.mpr ⟨fun _ => Or.inl qw_137, List.forall_mem_cons.mpr ⟨fun _ => Or.inl qw_138, List.forall_mem_cons.mpr ⟨fun _ => Or.inl qw_139, List.forall_mem_cons.mpr ⟨fun _ => Or.inl qw_141, List.forall_mem_cons.mpr ⟨fun _ => Or.inl qw_143, List.forall_mem_cons.mpr ⟨fun _ => Or.inl qw_145, List.forall_mem_cons.mpr ⟨fun h => absurd h (by decide +kernel), List.forall_mem_cons.mpr ⟨fun h => absurd h (by decide +kernel), List.forall_mem_cons.mpr ⟨fun _ => Or.inl qw_149, List.forall_mem_cons.mpr ⟨fun _ => Or.inl qw_148, List.forall_mem_cons.mpr ⟨fun _ => Or.inl qw_147, fun _ h => nomatch h⟩⟩⟩⟩⟩⟩⟩⟩⟩⟩⟩⟩⟩⟩
theorem at_ISE : ∀ w ∈ Bundle.ownAtoms "Dataroom" 48 "java/lang/IllegalStateException" ["java/lang/RuntimeException", "java/lang/Exception"], vx_no w = true → (w ∈ WS ∨ w ∈ NB) := by
  refine List.forall_mem_append.mpr ⟨List.forall_mem_append.mpr ⟨List.forall_mem_append.mpr ⟨?_, ?_⟩, ?_⟩, ?_⟩
  · exact List.forall_mem_cons.mpr ⟨fun _ => Or.inl qw_7, List.forall_mem_cons.mpr ⟨fun _ => Or.inl qw_150, List.forall_mem_cons.mpr ⟨fun _ => Or.inl qw_159, List.forall_mem_cons.mpr ⟨fun _ => Or.inl qw_163, List.forall_mem_cons.mpr ⟨fun _ => Or.inl qw_166, List.forall_mem_cons.mpr ⟨fun _ => Or.inr nw_168, List.forall_mem_cons.mpr ⟨fun _ => Or.inl qw_151, List.forall_mem_cons.mpr ⟨fun _ => Or.inl qw_152, List.forall_mem_cons.mpr ⟨fun _ => Or.inl qw_30, List.forall_mem_cons.mpr ⟨fun _ => Or.inl qw_31, List.forall_mem_cons.mpr ⟨fun _ => Or.inl qw_153, List.forall_mem_cons.mpr ⟨fun _ => Or.inl qw_158, List.forall_mem_cons.mpr ⟨fun _ => Or.inl qw_164, List.forall_mem_cons.mpr ⟨fun _ => Or.inl qw_184, List.forall_mem_cons.mpr ⟨fun _ => Or.inl qw_140, List.forall_mem_cons.mpr ⟨fun _ => Or.inl qw_185, List.forall_mem_cons.mpr ⟨fun _ => Or.inl qw_142, List.forall_mem_cons.mpr ⟨fun _ => Or.inl qw_186, List.forall_mem_cons.mpr ⟨fun _ => Or.inl qw_144, List.forall_mem_cons.mpr ⟨fun _ => Or.inl qw_154, List.forall_mem_cons.mpr ⟨fun h => absurd h (by decide +kernel), List.forall_mem_cons.mpr ⟨fun _ => Or.inl qw_156, List.forall_mem_cons.mpr ⟨fun h => absurd h (by decide +kernel), List.forall_mem_cons.mpr ⟨fun _ => Or.inl qw_146, fun _ h => nomatch h⟩⟩⟩⟩⟩⟩⟩⟩⟩⟩⟩⟩⟩⟩⟩⟩⟩⟩⟩⟩⟩⟩⟩⟩
  · exact List.forall_mem_cons.mpr ⟨fun _ => Or.inl qw_180, List.forall_mem_cons.mpr ⟨fun _ => Or.inl qw_181, List.forall_mem_cons.mpr ⟨fun _ => Or.inl qw_183, List.forall_mem_cons.mpr ⟨fun _ => Or.inl qw_146, fun _ h => nomatch h⟩⟩⟩⟩
  · refine List.forall_mem_append.mpr ⟨?_, List.forall_mem_append.mpr ⟨?_, ?_⟩⟩
    · exact List.forall_mem_cons.mpr ⟨fun _ => Or.inl qw_211, List.forall_mem_cons.mpr ⟨fun _ => Or.inl qw_212, List.forall_mem_cons.mpr ⟨fun _ => Or.inl qw_213, List.forall_mem_cons.mpr ⟨fun _ => Or.inl qw_174, List.forall_mem_cons.mpr ⟨fun _ => Or.inr nw_132, fun _ h => nomatch h⟩⟩⟩⟩⟩
    · exact List.forall_mem_cons.mpr ⟨fun _ => Or.inl qw_174, List.forall_mem_cons.mpr ⟨fun _ => Or.inl qw_175, List.forall_mem_cons.mpr ⟨fun _ => Or.inl qw_176, List.forall_mem_cons.mpr ⟨fun _ => Or.inl qw_177, List.forall_mem_cons.mpr ⟨fun _ => Or.inr nw_134, fun _ h => nomatch h⟩⟩⟩⟩⟩
    · exact List.forall_mem_cons.mpr ⟨fun _ => Or.inl qw_177, List.forall_mem_cons.mpr ⟨fun _ => Or.inl qw_178, List.forall_mem_cons.mpr ⟨fun _ => Or.inl qw_179, List.forall_mem_cons.mpr ⟨fun _ => Or.inl qw_180, List.forall_mem_cons.mpr ⟨fun _ => Or.inr nw_136, fun _ h => nomatch h⟩⟩⟩⟩⟩
  · exact List.forall_mem_cons.mpr ⟨fun _ => Or.inl qw_210, List.forall_mem_cons.mpr ⟨fun _ => Or.inl qw_201, List.forall_mem_cons.mpr ⟨fun _ => Or.inr nw_202, List.forall_mem_cons.mpr ⟨fun _ => Or.inl qw_203, List.forall_mem_cons.mpr ⟨fun _ => Or.inl qw_161, List.forall_mem_cons.mpr ⟨fun _ => Or.inl qw_204, List.forall_mem_cons.mpr ⟨fun _ => Or.inl qw_205, List.forall_mem_cons.mpr ⟨fun _ => Or.inl qw_206, List.forall_mem_cons.mpr ⟨fun _ => Or.inl qw_207, List.forall_mem_cons.mpr ⟨fun h => absurd h (by decide +kernel), List.forall_mem_cons.mpr ⟨fun h => absurd h (by decide +kernel), List.forall_mem_cons.mpr ⟨fun _ => Or.inl qw_149, List.forall_mem_cons.mpr ⟨fun _ => Or.inl qw_148, List.forall_mem_cons.mpr ⟨fun _ => Or.inl qw_208, fun _ h => nomatch h⟩⟩⟩⟩⟩⟩⟩⟩⟩⟩⟩⟩⟩⟩
theorem at_IOB : ∀ w ∈ Bundle.ownAtoms "Dataroom" 147 "java/lang/IndexOutOfBoundsException" ["java/lang/RuntimeException", "java/lang/Exception"], vx_no w = true → (w ∈ WS ∨ w ∈ NB) := by
  refine List.forall_mem_append.mpr ⟨List.forall_mem_append.mpr ⟨List.forall_mem_append.mpr ⟨?_, ?_⟩, ?_⟩, ?_⟩
  · exact List.forall_mem_cons.mpr ⟨fun _ => Or.inl qw_7, List.forall_mem_cons.mpr ⟨fun _ => Or.inl qw_150, List.forall_mem_cons.mpr ⟨fun _ => Or.inl qw_159, List.forall_mem_cons.mpr ⟨fun _ => Or.inl qw_163, List.forall_mem_cons.mpr ⟨fun _ => Or.inl qw_166, List.forall_mem_cons.mpr ⟨fun _ => Or.inr nw_168, List.forall_mem_cons.mpr ⟨fun _ => Or.inl qw_151, List.forall_mem_cons.mpr ⟨fun _ => Or.inl qw_152, List.forall_mem_cons.mpr ⟨fun _ => Or.inl qw_30, List.forall_mem_cons.mpr ⟨fun _ => Or.inl qw_31, List.forall_mem_cons.mpr ⟨fun _ => Or.inl qw_153, List.forall_mem_cons.mpr ⟨fun _ => Or.inl qw_158, List.forall_mem_cons.mpr ⟨fun _ => Or.inl qw_164, List.forall_mem_cons.mpr ⟨fun _ => Or.inl qw_184, List.forall_mem_cons.mpr ⟨fun _ => Or.inl qw_140, List.forall_mem_cons.mpr ⟨fun _ => Or.inl qw_185, List.forall_mem_cons.mpr ⟨fun _ => Or.inl qw_142, List.forall_mem_cons.mpr ⟨fun _ => Or.inl qw_186, List.forall_mem_cons.mpr ⟨fun _ => Or.inl qw_144, List.forall_mem_cons.mpr ⟨fun _ => Or.inl qw_154, List.forall_mem_cons.mpr ⟨fun h => absurd h (by decide +kernel), List.forall_mem_cons.mpr ⟨fun _ => Or.inl qw_156, List.forall_mem_cons.mpr ⟨fun h => absurd h (by decide +kernel), List.forall_mem_cons.mpr ⟨fun _ => Or.inl qw_146, fun _ h => nomatch h⟩⟩⟩⟩⟩⟩⟩⟩⟩⟩⟩⟩⟩⟩⟩⟩⟩⟩⟩⟩⟩⟩⟩⟩
  · exact List.forall_mem_cons.mpr ⟨fun _ => Or.inl qw_180, List.forall_mem_cons.mpr ⟨fun _ => Or.inl qw_181, List.forall_mem_cons.mpr ⟨fun _ => Or.inl qw_183, List.forall_mem_cons.mpr ⟨fun _ => Or.inl qw_146, fun _ h => nomatch h⟩⟩⟩⟩
  · refine List.forall_mem_append.mpr ⟨?_, List.forall_mem_append.mpr ⟨?_, ?_⟩⟩
    · exact List.forall_mem_cons.mpr ⟨fun _ => Or.inl qw_317, List.forall_mem_cons.mpr ⟨fun _ => Or.inl qw_318, List.forall_mem_cons.mpr ⟨fun _ => Or.inl qw_319, List.forall_mem_cons.mpr ⟨fun _ => Or.inl qw_174, List.forall_mem_cons.mpr ⟨fun _ => Or.inr nw_132, fun _ h => nomatch h⟩⟩⟩⟩⟩
    · exact List.forall_mem_cons.mpr ⟨fun _ => Or.inl qw_174, List.forall_mem_cons.mpr ⟨fun _ => Or.inl qw_175, List.forall_mem_cons.mpr ⟨fun _ => Or.inl qw_176, List.forall_mem_cons.mpr ⟨fun _ => Or.inl qw_177, List.forall_mem_cons.mpr ⟨fun _ => Or.inr nw_134, fun _ h => nomatch h⟩⟩⟩⟩⟩
    · exact List.forall_mem_cons.mpr ⟨fun _ => Or.inl qw_177, List.forall_mem_cons.mpr ⟨fun _ => Or.inl qw_178, List.forall_mem_cons.mpr ⟨fun _ => Or.inl qw_179, List.forall_mem_cons.mpr ⟨fun _ => Or.inl qw_180, List.forall_mem_cons.mpr ⟨fun _ => Or.inr nw_136, fun _ h => nomatch h⟩⟩⟩⟩⟩
  · exact List.forall_mem_cons.mpr ⟨fun _ => Or.inl qw_316, List.forall_mem_cons.mpr ⟨fun _ => Or.inl qw_307, List.forall_mem_cons.mpr ⟨fun _ => Or.inr nw_308, List.forall_mem_cons.mpr ⟨fun _ => Or.inl qw_309, List.forall_mem_cons.mpr ⟨fun _ => Or.inl qw_162, List.forall_mem_cons.mpr ⟨fun _ => Or.inl qw_310, List.forall_mem_cons.mpr ⟨fun _ => Or.inl qw_311, List.forall_mem_cons.mpr ⟨fun _ => Or.inl qw_312, List.forall_mem_cons.mpr ⟨fun _ => Or.inl qw_313, List.forall_mem_cons.mpr ⟨fun h => absurd h (by decide +kernel), List.forall_mem_cons.mpr ⟨fun h => absurd h (by decide +kernel), List.forall_mem_cons.mpr ⟨fun _ => Or.inl qw_149, List.forall_mem_cons.mpr ⟨fun _ => Or.inl qw_148, List.forall_mem_cons.mpr ⟨fun _ => Or.inl qw_314, fun _ h => nomatch h⟩⟩⟩⟩⟩⟩⟩⟩⟩⟩⟩⟩⟩⟩
theorem nb_ot {w : Cond} (h : w ∈ NB) : w.onTables = true := by
  have g := (List.mem_filter.mp h).2
  cases w with
  | castable a b => rfl
  | methodLinkNest a i x k => rfl
  | fieldLinkNest a i b n d k => rfl
  | native x => rfl
  | declares x => rfl
  | _ => cases g
abbrev xnm : List String := ["java/lang/RuntimeException", "java/lang/Exception"]
section XTH
variable {p : Program} {l : Launch} {e : Env} {R : Room} {s : State} {m : MethodId} {args : Array Value} {below : List Frame} {meth : Method} {c : Code} {H : Heap} {locs : List Loc} {cells slots mc ms : Nat} {Q : State → Prop}
variable {cc : ByteArray} {pc nL : Nat} {ls : Array Slot} {rest : List Value} {own : String} {ret : Option FieldType} {E : xE} {base : Nat} {al : Tg → Nat} {w : Tg → Option va_E}
theorem x_throw (C : XC p s m args meth c "Dataroom" cc nL ret E base) (het : ∀ x ∈ c.exceptionTable.toList, False) (hfl : l.stackTraces = false) {X text : String} {ik is ic : Nat} {post : Option Value → Heap → Prop} {px : String → Heap → Prop} (hat : ∀ w ∈ Bundle.ownAtoms "Dataroom" ic X xnm, vx_no w = true → (w ∈ WS ∨ w ∈ NB)) (hk : Cond.classLink "Dataroom" ik X ∈ WS) (hini : Cond.initialized X ∈ WS) (htx : (is, text) ∈ xtx) (hfit : Bundle.fit X = true) (hS : va_S (xA base) s.heap H locs) (hsize : ls.size = nL)
    (d0 : decode cc pc = .ok (.new ik, 3)) (d3 : decode cc (pc + 3) = .ok (.dup, 1)) (d4 : decode cc (pc + 4) = .ok (.ldc is, 2)) (d6 : decode cc (pc + 6) = .ok (.invokespecial ic, 3)) (d9 : decode cc (pc + 9) = .ok (.athrow, 1))
    (hRf : 5 < R.frames) (hRl : (rest.map fun v => v.category).sum + 82 ≤ R.locals) (hRc : cells + 1 ≤ R.cells) (hRs : slots + 6 ≤ R.slots) (hc : cells + 1 ≤ mc) (hs : slots + 6 ≤ ms)
    (hp : ∀ H1 : Heap, (∀ q : Nat, q < H.size → H1[q]? = H[q]?) → px X H1) : W p l e R s m args below meth c H locs cells slots (vx_MQ below (xQ base post) (xX base px) args s mc ms (xA base)) (F0 m pc ls rest) := by
  have key : ∀ w ∈ vx_atS "Dataroom" ic X xnm, w ∈ WS ∨ w ∈ NB := fun w hw => hat w (List.mem_filter.mp hw).1 (List.mem_filter.mp hw).2
  have good : ∀ w ∈ WS, vx_ot w = true := fun w hw => by unfold vx_ot; rw [(List.mem_filter.mp hw).2, Bool.or_true]
  refine vx_throwS (names := xnm) (A := xA base) C.hx C.hb hfl C.hown hfit (by decide +kernel) (C.ws _ hk) (C.ws _ hini) (C.st.2.2.1 _ htx) (fun w hw => ?_) (fun w hw => ?_) C.st.2.2.2.2.2.2.1 C.st.2.2.2.2.2.2.2.1 hS (hsize.trans C.2.2.1.symm) d0 d3 d4 d6 d9 (fun x hx => (het x hx).elim) hRf hRl hRc hRs C.locks (fun t _ hz ho => ⟨hp _ ho, ?_⟩) hS.2.2 hc hs
  · rcases key w hw with h | h
    · exact C.ws w h
    · exact (C.st.nb h).use (nb_ot h)
  · rcases List.mem_cons.mp hw with h | hw
    · rw [h]; exact good _ hk
    · rcases List.mem_cons.mp hw with h | hw
      · rw [h]; exact good _ hini
      · rcases key w hw with h | h
        · exact good w h
        · unfold vx_ot; rw [nb_ot h]; rfl
  · exact ⟨Nat.le_trans hS.1 hz, fun q h1 h2 => (ho q (Nat.lt_of_lt_of_le h1 hS.1)).trans (hS.2.1 q h1 h2)⟩
/-- what a callee threw goes on to the caller -/
theorem x_outX {X : String} {ce : Cell} {q9 : Addr} {post : Option Value → Heap → Prop} {px : String → Heap → Prop} (C : XC p s m args meth c own cc nL ret E base) (het : ∀ x ∈ c.exceptionTable.toList, False) (hS : va_S (xA base) s.heap H locs) (hce : H[q9]? = some ce) (hcv : ce.vm = .none) (hcl : s.vm.findClass X = some ce.cls) (hc : cells ≤ mc) (hs : slots ≤ ms) (hp : px X H) :
    vx_W p l e R s m args below meth c H locs cells slots (vx_MQ below (xQ base post) (xX base px) args s mc ms (xA base)) (F0 m pc ls rest) q9 :=
  vx_out (fun x hx => (het x hx).elim) C.locks hce hcv hcl (fun t ht _ => ⟨by rw [ht]; exact hp, hS.F ht⟩) hS.2.2 hc hs
theorem x_cast (C : XC p s m args meth c own cc nL ret E base) (hH : xH E base al w H) {t : Tg} {ci index : Nat} {fs : List Value} {r : vw_C} (ht : w t = some (.inr (ci, fs))) (hc : vwCl[ci]? = some r) (hl : Cond.classLink own index r.1 ∈ WS) (hdg : decode cc pc = .ok (.checkcast index, 3))
    (kk : W p l e R s m args below meth c H locs cells slots Q (F0 m (pc + 3) ls (.ref (al t) :: rest))) : W p l e R s m args below meth c H locs cells slots Q (F0 m pc ls (.ref (al t) :: rest)) :=
  va_castS C.hx C.hb C.hown (C.ws _ hl) (C.st.K.1 ci r hc).2 (va_recv C.st.K (hH.P ht) hc (q0 := 0) rfl) hdg kk
theorem x_getsL (C : XC p s m args meth c own cc nL ret E base) (hS : va_S (xA base) s.heap H locs) {index : Nat} (hl : Cond.fieldLink own index "Dataroom$Marks" "LACKING" "[J" ∈ WS) (hdg : decode cc pc = .ok (.getstatic index, 3))
    (kk : W p l e R s m args below meth c H locs cells slots Q (F0 m (pc + 3) ls (.ref (E.2.2 0) :: rest))) : W p l e R s m args below meth c H locs cells slots Q (F0 m pc ls rest) :=
  va_gets C.hx C.hb C.st.2.2.2.2.2.2.2.2.1 hS C.hown (C.ws _ hl) (fun _ h => h) hdg kk
theorem x_getsE (C : XC p s m args meth c own cc nL ret E base) (hS : va_S (xA base) s.heap H locs) {index : Nat} (hl : Cond.fieldLink own index "java/util/ArrayList" "DEFAULTCAPACITY_EMPTY_ELEMENTDATA" "[Ljava/lang/Object;" ∈ WS) (hdg : decode cc pc = .ok (.getstatic index, 3))
    (kk : W p l e R s m args below meth c H locs cells slots Q (F0 m (pc + 3) ls (.ref (E.2.2 1) :: rest))) : W p l e R s m args below meth c H locs cells slots Q (F0 m pc ls rest) :=
  va_gets C.hx C.hb C.st.2.2.2.2.2.2.2.2.2.1 hS C.hown (C.ws _ hl) (fun _ h => h) hdg kk
theorem x_lenL (C : XC p s m args meth c own cc nL ret E base) (hS : va_S (xA base) s.heap H locs) (hdg : decode cc pc = .ok (.arraylength, 1))
    (kk : W p l e R s m args below meth c H locs cells slots Q (F0 m (pc + 1) ls (.int (nI 6) :: rest))) : W p l e R s m args below meth c H locs cells slots Q (F0 m pc ls (.ref (E.2.2 0) :: rest)) :=
  va_tlen (N := 6) C.hx C.hb C.st.2.2.2.2.2.2.2.2.2.2.1 hS rfl hdg kk
theorem x_lenE (C : XC p s m args meth c own cc nL ret E base) (hS : va_S (xA base) s.heap H locs) (hdg : decode cc pc = .ok (.arraylength, 1))
    (kk : W p l e R s m args below meth c H locs cells slots Q (F0 m (pc + 1) ls (.int (nI 0) :: rest))) : W p l e R s m args below meth c H locs cells slots Q (F0 m pc ls (.ref (E.2.2 1) :: rest)) :=
  va_tlen (N := 0) C.hx C.hb C.st.2.2.2.2.2.2.2.2.2.2.2.1 hS rfl hdg kk
theorem x_laldL (C : XC p s m args meth c own cc nL ret E base) (hS : va_S (xA base) s.heap H locs) {i : Int32} {j : Nat} (hi : i = nI j) (hj : j < 6) (hdg : decode cc pc = .ok (.laload, 1))
    (kk : W p l e R s m args below meth c H locs cells slots Q (F0 m (pc + 1) ls (.long (lkf j) :: rest))) : W p l e R s m args below meth c H locs cells slots Q (F0 m pc ls (.int i :: .ref (E.2.2 0) :: rest)) := by
  subst hi
  exact va_tl (N := 6) C.hx C.hb C.st.2.2.2.2.2.2.2.2.2.2.1 hS (vp_in_nI hj (by decide)) (v := .long (lkf j)) (by rw [nI_clamp (by omega)]) hdg kk
theorem x_astqO (C : XC p s m args meth c own cc nL ret E base) (hH : xH E base al w H) (hS : va_S (xA base) s.heap H locs) {r : vw_C} {ci : Nat} {vs : List Value} {t tv : Tg} {n : Nat} {f : Nat → Option Nat} (ht : w t = some (.inl (E.2.1 5, n, .inr (.inr (.inr (.inr f)))))) (hv : w tv = some (.inr (ci, vs))) (hc : vwCl[ci]? = some r) (hca : Cond.castable r.1 "java/lang/Object" ∈ NB) {i : Int32} {j : Nat} (hi : i = nI j) (hj : j < n) (hn : n < 2 ^ 31) (hdg : decode cc pc = .ok (.aastore, 1))
    (kk : ∀ (H1 : Heap) (locs1 : List Loc), xH E base al (xu w t (.inl (E.2.1 5, n, .inr (.inr (.inr (.inr (va_up f j (some (al tv))))))))) H1 → va_S (xA base) s.heap H1 locs1 → W p l e R s m args below meth c H1 locs1 cells slots Q (F0 m (pc + 1) ls rest)) : W p l e R s m args below meth c H locs cells slots Q (F0 m pc ls (.ref (al tv) :: .int i :: .ref (al t) :: rest)) := by
  subst hi
  have hin := vp_in_nI hj hn
  have h0 : ¬ nI j < 0 := fun q => hin (Or.inl q)
  obtain ⟨r', hr', cellV, g1, g2, g3, -⟩ := (hH.1 tv _ hv).2
  have hcls := (C.st.K.1 ci r hc).2
  obtain ⟨kA, comp, k1, k2, k3, -⟩ := (C.st.K.2 5 _ rfl).2
  obtain ⟨kE, hkE, -⟩ := Vm.findClass_spec k3
  obtain ⟨c0, t1, f1, f2, f3⟩ := Cond.castable_spec (va_Nw.use (A := args) rfl (C.st.nb hca))
  cases hcls.1.symm.trans f1
  cases k3.symm.trans f2
  obtain ⟨kC, hkC, -⟩ := hcls.2
  refine W.aast C.hx C.hb (hH.1 t _ ht).2 (fun q h => by cases h) (fun h => by cases h) k1 k2 rfl hkE ⟨h0, by show _ < (arrV _ _ _).slots.size; rw [arrV_size, nI_clamp (by omega)]; exact hj⟩ g1 (fun q h => by rw [g3] at h; cases h) (by rw [g2]; exact hkC) (by rw [g2]; exact f3) rfl rfl hdg fun H1 e z oq => ?_
  refine kk H1 _ (hH.set ht ?_ oq) (hS.put z oq (hH.1 t _ ht).1)
  show H1[al t]? = some (vp_cell _ _)
  rw [e, nI_clamp (by omega)]
  rw [vp_cell_q, vp_cell_q, arrV_store]
  congr 2
  funext q
  by_cases hq : q = j
  · subst hq
    simp [updV, va_up, va_rf]
  · simp [updV, va_up, hq]
/-- arrays of references that hold the same -/
theorem x_arrQ {t : Tg} {k0 n : Nat} {f g : Nat → Option Nat} (h : ∀ j, j < n → f j = g j) (hH : xH E base al (xu w t (.inl (E.2.1 k0, n, .inr (.inr (.inr (.inr f)))))) H) : xH E base al (xu w t (.inl (E.2.1 k0, n, .inr (.inr (.inr (.inr g)))))) H := by
  have hc : vp_cell (E.2.1 k0) (n, .inr (.inr (.inr (.inr f)))) = vp_cell (E.2.1 k0) (n, .inr (.inr (.inr (.inr g)))) := by
    rw [vp_cell_q, vp_cell_q]
    unfold arrV
    congr 1
    apply Array.ext
    · simp
    · intro i h1 h2
      have hi : i < n := by simpa using h1
      simp [h i hi]
  have h0 := (hH.1 t _ (xu_self _ _ _))
  have h2 := hH.set (xu_self _ _ _) (H1 := H) (e' := .inl (E.2.1 k0, n, .inr (.inr (.inr (.inr g))))) (by show H[al t]? = some _; rw [← hc]; exact h0.2) (fun _ _ => rfl)
  rw [xu_uu] at h2
  exact h2
theorem x_arrI {t : Tg} {k0 n : Nat} {f g : Nat → Int32} (h : ∀ j, j < n → f j = g j) (hH : xH E base al (xu w t (.inl (E.2.1 k0, n, .inl f))) H) : xH E base al (xu w t (.inl (E.2.1 k0, n, .inl g))) H := by
  have hc : vp_cell (E.2.1 k0) (n, .inl f) = vp_cell (E.2.1 k0) (n, .inl g) := by
    rw [vp_cell_i, vp_cell_i]
    unfold arrV
    congr 1
    apply Array.ext
    · simp
    · intro i h1 h2
      have hi : i < n := by simpa using h1
      simp [h i hi]
  have h0 := (hH.1 t _ (xu_self _ _ _))
  have h2 := hH.set (xu_self _ _ _) (H1 := H) (e' := .inl (E.2.1 k0, n, .inl g)) (by show H[al t]? = some _; rw [← hc]; exact h0.2) (fun _ _ => rfl)
  rw [xu_uu] at h2
  exact h2
end XTH
