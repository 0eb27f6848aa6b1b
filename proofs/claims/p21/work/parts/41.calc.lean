/-! the room's state in one; contracts over it: of one room (SR), of two rooms side by side (DR) -/
abbrev AS : Type := Nat × Nat × Nat × Nat × (Nat → Nat → Nat → Int32) × (Nat → Bool)
def RS (E : xE) (al : Tg → Nat) (w : Tg → Option va_E) (S : AS) : Prop := RM E al w S.1 S.2.1 S.2.2.1 S.2.2.2.1 S.2.2.2.2.1 S.2.2.2.2.2
def IV (S : AS) : Prop := INV S.1 S.2.1 S.2.2.1 S.2.2.2.1 S.2.2.2.2.1 S.2.2.2.2.2
def PS (E : xE) (base : Nat) (al : Tg → Nat) (w : Tg → Option va_E) (S : AS) (H : Heap) : Prop := PO E base al w S.1 S.2.1 S.2.2.1 S.2.2.2.1 S.2.2.2.2.1 S.2.2.2.2.2 H
noncomputable def cif {α : Type} (P : Prop) (a b : α) : α := @ite α P (Classical.propDecidable P) a b
theorem cif_t {α : Type} {P : Prop} {a b : α} (h : P) : cif P a b = a := if_pos h
theorem cif_f {α : Type} {P : Prop} {a b : α} (h : ¬ P) : cif P a b = b := if_neg h
def bad (S : AS) : Int32 × AS := (-99999999, S)
def cl (x : Int32) : Nat := x.toNatClampNeg
theorem cl_nI {n : Nat} (h : n < 2 ^ 31) : cl (nI n) = n := nI_clamp h
section FIN
variable {E : xE} {base : Nat} {al : Tg → Nat} {w : Tg → Option va_E} {S : AS} {P : Prop} {g : Int32 × AS} {v : Int32} {H : Heap}
theorem fin_no (h : ¬ P) (hH : xH E base al w H) (hR : RS E al w S) : some (Value.int (-99999999)) = some (Value.int (cif P g (bad S)).1) ∧ PS E base al w (cif P g (bad S)).2 H := by
  rw [cif_f h]
  exact ⟨rfl, PO_of hH hR (fun _ _ => rfl)⟩
theorem fin_ok (h : P) (hv : v = g.1) (hP : PS E base al w g.2 H) : some (Value.int v) = some (Value.int (cif P g (bad S)).1) ∧ PS E base al w (cif P g (bad S)).2 H := by
  rw [cif_t h]
  exact ⟨by rw [hv], hP⟩
end FIN
/-! the other room's names -/
def sw (t : Tg) : Tg := if t.1 < 10 then (t.1 + 30, t.2) else if 30 ≤ t.1 ∧ t.1 < 40 then (t.1 - 30, t.2) else t
theorem sw_sw (t : Tg) : sw (sw t) = t := by
  obtain ⟨a, b⟩ := t
  unfold sw
  by_cases h : a < 10
  · rw [if_pos h]
    show (if a + 30 < 10 then (a + 30 + 30, b) else if 30 ≤ a + 30 ∧ a + 30 < 40 then (a + 30 - 30, b) else (a + 30, b)) = (a, b)
    rw [if_neg (by omega), if_pos (by omega)]
    show (a + 30 - 30, b) = (a, b)
    rw [Nat.add_sub_cancel]
  · rw [if_neg h]
    by_cases k : 30 ≤ a ∧ a < 40
    · rw [if_pos k]
      show (if a - 30 < 10 then (a - 30 + 30, b) else if 30 ≤ a - 30 ∧ a - 30 < 40 then (a - 30 - 30, b) else (a - 30, b)) = (a, b)
      rw [if_pos (by omega)]
      show (a - 30 + 30, b) = (a, b)
      rw [Nat.sub_add_cancel k.1]
    · rw [if_neg k]
      show (if a < 10 then (a + 30, b) else if 30 ≤ a ∧ a < 40 then (a - 30, b) else (a, b)) = (a, b)
      rw [if_neg h, if_neg k]
theorem sw_lo {t : Tg} (h : t.1 < 10) : 10 ≤ (sw t).1 := by
  unfold sw; rw [if_pos h]; show 10 ≤ t.1 + 30; omega
def al2 (al : Tg → Nat) : Tg → Nat := fun t => al (sw t)
def w2 (w : Tg → Option va_E) : Tg → Option va_E := fun t => w (sw t)
theorem al2_2 (al : Tg → Nat) : al2 (al2 al) = al := by funext t; show al (sw (sw t)) = al t; rw [sw_sw]
theorem w2_2 (w : Tg → Option va_E) : w2 (w2 w) = w := by funext t; show w (sw (sw t)) = w t; rw [sw_sw]
theorem xH_2 {E : xE} {base : Nat} {al : Tg → Nat} {w : Tg → Option va_E} {H : Heap} (h : xH E base al w H) : xH E base (al2 al) (w2 w) H :=
  ⟨fun t e ht => h.1 (sw t) e ht, fun t t' e e' ht ht' he => by
    have k := h.2 (sw t) (sw t') e e' ht ht' he
    rw [← sw_sw t, k, sw_sw]⟩
theorem dm_lo {nf np na : Nat} {t : Tg} (h : dm nf np na t) : t.1 < 10 := by
  rcases h with h | h | h | h <;> omega
theorem RS_of {E : xE} {al al' : Tg → Nat} {w w' : Tg → Option va_E} {S : AS} (h : RS E al w S) (hw : ∀ t : Tg, t.1 < 10 → w' t = w t) (ha : ∀ t : Tg, t.1 < 10 → al' t = al t) : RS E al' w' S :=
  RM.of h (fun t ht => hw t (dm_lo ht)) (fun t ht => ha t (dm_lo ht))
def SR (E : xE) (base A0 : Nat) (S : AS) (H : Heap) : Prop := ∃ (al : Tg → Nat) (w : Tg → Option va_E), (RS E al w S ∧ al (0, 0, 0) = A0) ∧ xH E base al w H
def DR (E : xE) (base A0 A1 : Nat) (S T : AS) (H : Heap) : Prop := ∃ (al : Tg → Nat) (w : Tg → Option va_E), (RS E al w S ∧ RS E (al2 al) (w2 w) T ∧ al (0, 0, 0) = A0 ∧ al2 al (0, 0, 0) = A1) ∧ xH E base al w H
theorem DR.swp {E : xE} {base A0 A1 : Nat} {S T : AS} {H : Heap} (h : DR E base A0 A1 S T H) : DR E base A1 A0 T S H := by
  obtain ⟨al, w, ⟨h1, h2, h3, h4⟩, h5⟩ := h
  exact ⟨al2 al, w2 w, ⟨h2, by rw [al2_2, w2_2]; exact h1, h4, by rw [al2_2]; exact h3⟩, xH_2 h5⟩
theorem DR.S {E : xE} {base A0 A1 : Nat} {S T : AS} {H : Heap} (h : DR E base A0 A1 S T H) : SR E base A0 S H := by
  obtain ⟨al, w, ⟨h1, h2, h3, h4⟩, h5⟩ := h
  exact ⟨al, w, ⟨h1, h3⟩, h5⟩
theorem PS.S {E : xE} {base A0 : Nat} {al : Tg → Nat} {w : Tg → Option va_E} {S : AS} {H : Heap} (h : PS E base al w S H) (h0 : al (0, 0, 0) = A0) : SR E base A0 S H := by
  obtain ⟨al', w', hH, hR, hf, h9⟩ := h
  exact ⟨al', w', ⟨hR, h9.trans h0⟩, hH⟩
theorem PS.D {E : xE} {base A0 A1 : Nat} {al : Tg → Nat} {w : Tg → Option va_E} {S T : AS} {H : Heap} (h : PS E base al w S H) (hT : RS E (al2 al) (w2 w) T) (h0 : al (0, 0, 0) = A0) (h1 : al2 al (0, 0, 0) = A1) : DR E base A0 A1 S T H := by
  obtain ⟨al', w', hH, hR, hf, h9⟩ := h
  refine ⟨al', w', ⟨hR, RS_of hT (fun t ht => (hf (sw t) (sw_lo ht)).1) (fun t ht => (hf (sw t) (sw_lo ht)).2), h9.trans h0, ?_⟩, hH⟩
  exact ((hf (sw (0, 0, 0)) (sw_lo (by decide))).2).trans h1
/-! contracts: weaker ends, starts that are somehow -/
theorem metF_imp {l : Launch} {y : MethodName} {sp : Spec} {P : Array Value → State → Prop} {Q Q' : Array Value → State → Outcome → State → Prop} {K : Program → Env → List Frame → State → Array Value → Prop} (h : MetFree l y sp P K Q) (hq : ∀ a s o t, Q a s o t → Q' a s o t) : MetFree l y sp P K Q' := by
  intro p e ha hc hk s m args below hf happ hP hK
  obtain ⟨n, o, h1, h2, h3, h4⟩ := h p e ha hc hk s m args below hf happ hP hK
  exact ⟨n, o, h1, h2, h3, hq _ _ _ _ h4⟩
theorem metF_ex {l : Launch} {y : MethodName} {sp : Spec} {ι : Type} {C : ι → Prop} {P : ι → Array Value → State → Prop} {Q : Array Value → State → Outcome → State → Prop} {K : Program → Env → List Frame → State → Array Value → Prop} (h : ∀ i, C i → MetFree l y sp (P i) K Q) : MetFree l y sp (fun a s => ∃ i, C i ∧ P i a s) K Q := by
  intro p e ha hc hk s m args below hf happ hP hK
  obtain ⟨i, hi, hP⟩ := hP
  exact h i hi p e ha hc hk s m args below hf happ hP hK
theorem metF_pre {l : Launch} {y : MethodName} {sp : Spec} {P P' : Array Value → State → Prop} {Q : Array Value → State → Outcome → State → Prop} {K : Program → Env → List Frame → State → Array Value → Prop} (h : MetFree l y sp P K Q) (hp : ∀ a s, P' a s → P a s) : MetFree l y sp P' K Q := by
  intro p e ha hc hk s m args below hf happ hP hK
  exact h p e ha hc hk s m args below hf happ (hp _ _ hP) hK
theorem xQ_imp {base : Nat} {post post' : Option Value → Heap → Prop} (h : ∀ r H, post r H → post' r H) (a : Array Value) (s : State) (o : Outcome) (t : State) (q : xQ base post a s o t) : xQ base post' a s o t := by
  obtain ⟨⟨r, h1, h2⟩, h3⟩ := q
  exact ⟨⟨r, h1, h _ _ h2⟩, h3⟩
theorem vxQ_imp {base mc ms : Nat} {post post' : Option Value → Heap → Prop} {px px' : String → Heap → Prop} (h : ∀ r H, post r H → post' r H) (k : ∀ X H, px X H → px' X H) (a : Array Value) (s : State) (o : Outcome) (t : State) (q : vx_Q (xQ base post) (xX base px) mc ms (xA base) a s o t) : vx_Q (xQ base post') (xX base px') mc ms (xA base) a s o t := by
  rcases q with ⟨h1, h2⟩ | ⟨q, h1, X, ce, L, ⟨h2, h3⟩, h4⟩
  · exact Or.inl ⟨xQ_imp h _ _ _ _ h1, h2⟩
  · exact Or.inr ⟨q, h1, X, ce, L, ⟨k _ _ h2, h3⟩, h4⟩
section LIFT
variable {l : Launch} {y : MethodName} {b : ByteArray} {n : Nat} {ry : Option FieldType} {hh : List (Nat × Nat × Nat × Nat)} {rm : Room} {E : xE} {base A0 A1 : Nat} {As : List Value} {S S' T : AS} {v : Int32}
/-- a call on the room at A0 answers v and leaves it so -/
def HR (l : Launch) (y : MethodName) (b : ByteArray) (n : Nat) (ry : Option FieldType) (hh : List (Nat × Nat × Nat × Nat)) (rm : Room) (E : xE) (base : Nat) (As : List Value) (S : AS) (v : Int32) (S' : AS) : Prop :=
  ∀ (al : Tg → Nat) (w : Tg → Option va_E), RS E al w S → xMetH l y b n ry hh rm E base (.ref (al (0, 0, 0)) :: As) (fun H => xH E base al w H) (fun r H => r = some (.int v) ∧ PS E base al w S' H)
def HM (l : Launch) (y : MethodName) (b : ByteArray) (n : Nat) (ry : Option FieldType) (rm : Room) (E : xE) (base : Nat) (As : List Value) (S : AS) (v : Int32) (S' : AS) : Prop :=
  ∀ (al : Tg → Nat) (w : Tg → Option va_E), RS E al w S → xMet l y b n ry rm E base (.ref (al (0, 0, 0)) :: As) (fun H => xH E base al w H) (fun r H => r = some (.int v) ∧ PS E base al w S' H)
theorem HR.one (h : HR l y b n ry hh rm E base As S v S') : xMetH l y b n ry hh rm E base (.ref A0 :: As) (SR E base A0 S) (fun r H => r = some (.int v) ∧ SR E base A0 S' H) := by
  refine metF_pre (metF_ex (ι := (Tg → Nat) × (Tg → Option va_E)) (C := fun i => RS E i.1 i.2 S ∧ i.1 (0, 0, 0) = A0) (P := fun i => xPc E base (.ref A0 :: As) (fun H => xH E base i.1 i.2 H)) ?_) ?_
  · rintro ⟨al, w⟩ ⟨h1, h2⟩
    have k := h al w h1
    have h2 : al (0, 0, 0) = A0 := h2
    rw [h2] at k
    exact metF_imp k (vxQ_imp (fun r H hp => ⟨hp.1, hp.2.S h2⟩) (fun _ _ q => q))
  · rintro a s ⟨h1, h2, al, w, h3, h4⟩
    exact ⟨(al, w), h3, h1, h2, h4⟩
theorem HR.two (h : HR l y b n ry hh rm E base As S v S') : xMetH l y b n ry hh rm E base (.ref A0 :: As) (DR E base A0 A1 S T) (fun r H => r = some (.int v) ∧ DR E base A0 A1 S' T H) := by
  refine metF_pre (metF_ex (ι := (Tg → Nat) × (Tg → Option va_E)) (C := fun i => RS E i.1 i.2 S ∧ RS E (al2 i.1) (w2 i.2) T ∧ i.1 (0, 0, 0) = A0 ∧ al2 i.1 (0, 0, 0) = A1) (P := fun i => xPc E base (.ref A0 :: As) (fun H => xH E base i.1 i.2 H)) ?_) ?_
  · rintro ⟨al, w⟩ ⟨h1, h3, h2, h4⟩
    have k := h al w h1
    have h2 : al (0, 0, 0) = A0 := h2
    rw [h2] at k
    exact metF_imp k (vxQ_imp (fun r H hp => ⟨hp.1, hp.2.D h3 h2 h4⟩) (fun _ _ q => q))
  · rintro a s ⟨h1, h2, al, w, h3, h4⟩
    exact ⟨(al, w), h3, h1, h2, h4⟩
theorem HR.two' (h : HR l y b n ry hh rm E base As T v S') : xMetH l y b n ry hh rm E base (.ref A1 :: As) (DR E base A0 A1 S T) (fun r H => r = some (.int v) ∧ DR E base A0 A1 S S' H) := by
  have k := HR.two (A0 := A1) (A1 := A0) (T := S) h
  exact metF_pre (metF_imp k (vxQ_imp (fun r H hp => ⟨hp.1, hp.2.swp⟩) (fun _ _ q => q))) (fun a s q => ⟨q.1, q.2.1, q.2.2.swp⟩)
theorem HM.one (h : HM l y b n ry rm E base As S v S') : xMet l y b n ry rm E base (.ref A0 :: As) (SR E base A0 S) (fun r H => r = some (.int v) ∧ SR E base A0 S' H) := by
  refine metF_pre (metF_ex (ι := (Tg → Nat) × (Tg → Option va_E)) (C := fun i => RS E i.1 i.2 S ∧ i.1 (0, 0, 0) = A0) (P := fun i => xPc E base (.ref A0 :: As) (fun H => xH E base i.1 i.2 H)) ?_) ?_
  · rintro ⟨al, w⟩ ⟨h1, h2⟩
    have k := h al w h1
    have h2 : al (0, 0, 0) = A0 := h2
    rw [h2] at k
    exact metF_imp k (fun a s o t q => ⟨xQ_imp (fun r H hp => ⟨hp.1, hp.2.S h2⟩) _ _ _ _ q.1, q.2⟩)
  · rintro a s ⟨h1, h2, al, w, h3, h4⟩
    exact ⟨(al, w), h3, h1, h2, h4⟩
theorem HM.two (h : HM l y b n ry rm E base As S v S') : xMet l y b n ry rm E base (.ref A0 :: As) (DR E base A0 A1 S T) (fun r H => r = some (.int v) ∧ DR E base A0 A1 S' T H) := by
  refine metF_pre (metF_ex (ι := (Tg → Nat) × (Tg → Option va_E)) (C := fun i => RS E i.1 i.2 S ∧ RS E (al2 i.1) (w2 i.2) T ∧ i.1 (0, 0, 0) = A0 ∧ al2 i.1 (0, 0, 0) = A1) (P := fun i => xPc E base (.ref A0 :: As) (fun H => xH E base i.1 i.2 H)) ?_) ?_
  · rintro ⟨al, w⟩ ⟨h1, h3, h2, h4⟩
    have k := h al w h1
    have h2 : al (0, 0, 0) = A0 := h2
    rw [h2] at k
    exact metF_imp k (fun a s o t q => ⟨xQ_imp (fun r H hp => ⟨hp.1, hp.2.D h3 h2 h4⟩) _ _ _ _ q.1, q.2⟩)
  · rintro a s ⟨h1, h2, al, w, h3, h4⟩
    exact ⟨(al, w), h3, h1, h2, h4⟩
theorem HM.two' (h : HM l y b n ry rm E base As T v S') : xMet l y b n ry rm E base (.ref A1 :: As) (DR E base A0 A1 S T) (fun r H => r = some (.int v) ∧ DR E base A0 A1 S S' H) := by
  have k := HM.two (A0 := A1) (A1 := A0) (T := S) h
  exact metF_pre (metF_imp k (fun a s o t q => ⟨xQ_imp (fun r H hp => ⟨hp.1, hp.2.swp⟩) _ _ _ _ q.1, q.2⟩)) (fun a s q => ⟨q.1, q.2.1, q.2.2.swp⟩)
end LIFT
