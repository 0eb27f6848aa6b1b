/-! the room changes -/
def dm (nf np na : Nat) (t : Tg) : Prop := t.1 = 0 ∨ (t.1 = 1 ∧ t.2.1 < nf) ∨ (2 ≤ t.1 ∧ t.1 ≤ 5 ∧ t.2.1 < np) ∨ (t.1 = 6 ∧ t.2.1 < na)
theorem u3_row {sg : Nat → Nat → Nat → Int32} {k i j : Nat} {v : Int32} : u3 sg k i j v k i = upd (sg k i) j v := by
  funext d
  show (if k = k ∧ i = i ∧ d = j then v else sg k i d) = if d = j then v else sg k i d
  by_cases h : d = j
  · rw [if_pos ⟨rfl, rfl, h⟩, if_pos h]
  · rw [if_neg (fun q => h q.2.2), if_neg h]
def RA (E : xE) (al : Tg → Nat) (w : Tg → Option va_E) (nf np na nw : Nat) : Prop :=
  w (0, 0, 0) = some (.inr (7, [.ref (al (0, 1, 0)), .ref (al (0, 2, 0)), .ref (al (0, 3, 0)), .int (nI nw), .ref (al (0, 4, 0)), .ref (al (0, 5, 0))])) ∧
  LR E al w (0, 1, 0) (0, 1, 1) nf tF ∧ LR E al w (0, 2, 0) (0, 2, 1) np tP ∧ LR E al w (0, 3, 0) (0, 3, 1) na tN ∧
  (∃ (n : Int32) (f : Nat → Int32), w (0, 4, 0) = some (.inr (3, [.ref (al (0, 4, 1)), .int n])) ∧ w (0, 4, 1) = some (.inl (E.2.1 0, 16, .inl f))) ∧
  (∃ (n : Int32) (f : Nat → Int64), w (0, 5, 0) = some (.inr (4, [.ref (al (0, 5, 1)), .int n])) ∧ w (0, 5, 1) = some (.inl (E.2.1 1, 1024, .inr (.inl f))))
def RMg (E : xE) (al : Tg → Nat) (w : Tg → Option va_E) (nf np na nw : Nat) (sg : Nat → Nat → Nat → Int32) (rc : Nat → Bool) (KF : Nat → Nat → Nat → Int32) (KC : Nat → Nat → Nat) : Prop :=
  RA E al w nf np na nw ∧ (∀ i, i < nf → w (1, i, 0) = some (.inr (2, [.int (sg 1 i 0), .int (sg 2 i 0)]))) ∧
  (∀ p, p < np → PT E al w p (sg 3 p 0) (sg 4 p) (sg 5 p) (sg 6 p) (sg 13 p) (KF p) (KC p)) ∧
  ∀ a, a < na → w (6, a, 0) = some (.inr (1, [.int (sg 7 a 0), .int (sg 8 a 0), .int (sg 9 a 0), .int (sg 10 a 0), .int (sg 11 a 0), .int (ob (rc a))]))
section RMS
variable {E : xE} {base : Nat} {al al' : Tg → Nat} {w w' : Tg → Option va_E} {nf np na nw : Nat} {sg : Nat → Nat → Nat → Int32} {rc : Nat → Bool} {KF : Nat → Nat → Nat → Int32} {KC : Nat → Nat → Nat} {H : Heap}
theorem RM_g : RM E al w nf np na nw sg rc ↔ RMg E al w nf np na nw sg rc (fun p => KFs sg rc na p) (fun p => KCs sg rc na p) :=
  ⟨fun ⟨a, b, c, d, e, f, g, h, i⟩ => ⟨⟨a, b, c, d, e, f⟩, g, h, i⟩, fun ⟨⟨a, b, c, d, e, f⟩, g, h, i⟩ => ⟨a, b, c, d, e, f, g, h, i⟩⟩
theorem RA.of (h : RA E al w nf np na nw) (hw : ∀ t : Tg, t.1 = 0 → w' t = w t) (ha : ∀ t : Tg, t.1 = 0 ∨ (t.1 = 1 ∧ t.2.1 < nf) ∨ (t.1 = 2 ∧ t.2.1 < np) ∨ (t.1 = 6 ∧ t.2.1 < na) → al' t = al t) : RA E al' w' nf np na nw := by
  obtain ⟨h0, h1, h2, h3, h4, h5⟩ := h
  have a0 : ∀ i j, al' (0, i, j) = al (0, i, j) := fun i j => ha _ (Or.inl rfl)
  have b0 : ∀ i j, w' (0, i, j) = w (0, i, j) := fun i j => hw _ rfl
  refine ⟨?_, h1.mv (b0 _ _) (b0 _ _) (a0 _ _) (fun i hi => ha _ (Or.inr (Or.inl ⟨rfl, hi⟩))), ?_, ?_, ?_, ?_⟩
  · rw [b0, a0, a0, a0, a0, a0]; exact h0
  · exact h2.mv (b0 _ _) (b0 _ _) (a0 _ _) (fun i hi => ha _ (Or.inr (Or.inr (Or.inl ⟨rfl, hi⟩))))
  · exact h3.mv (b0 _ _) (b0 _ _) (a0 _ _) (fun i hi => ha _ (Or.inr (Or.inr (Or.inr ⟨rfl, hi⟩))))
  · rw [b0, b0, a0]; exact h4
  · rw [b0, b0, a0]; exact h5
theorem RMg.of (h : RMg E al w nf np na nw sg rc KF KC) (hw : ∀ t : Tg, dm nf np na t → w' t = w t) (ha : ∀ t : Tg, dm nf np na t → al' t = al t) : RMg E al' w' nf np na nw sg rc KF KC := by
  obtain ⟨hA, hC, hP, hN⟩ := h
  refine ⟨hA.of (fun t ht => hw t (Or.inl ht)) (fun t ht => ha t (by unfold dm; omega)), fun i hi => ?_, fun p hp => ?_, fun a h => ?_⟩
  · rw [hw _ (Or.inr (Or.inl ⟨rfl, hi⟩))]; exact hC i hi
  · exact (hP p hp).mv (fun t h1 h2 h3 => hw t (Or.inr (Or.inr (Or.inl ⟨h1, h2, by omega⟩)))) (fun t h1 h2 h3 => ha t (Or.inr (Or.inr (Or.inl ⟨h1, h2, by omega⟩))))
  · rw [hw _ (Or.inr (Or.inr (Or.inr ⟨rfl, h⟩)))]; exact hN a h
theorem RM.of (h : RM E al w nf np na nw sg rc) (hw : ∀ t : Tg, dm nf np na t → w' t = w t) (ha : ∀ t : Tg, dm nf np na t → al' t = al t) : RM E al' w' nf np na nw sg rc := RM_g.mpr ((RM_g.mp h).of hw ha)
theorem KFs_u3 {k i j : Nat} {v : Int32} (h7 : 7 ≠ k) (h8 : 8 ≠ k) (h9 : 9 ≠ k) : KFs (u3 sg k i j v) = KFs sg := by
  funext rc na p b
  have e1 : stdb (u3 sg k i j v) rc p b = stdb sg rc p b := by funext a; unfold stdb; rw [u3_k h7, u3_k h9]
  have e2 : sets (u3 sg k i j v) = sets sg := by funext a; unfold sets; rw [u3_k h8]
  unfold KFs
  rw [e1, e2]
theorem KCs_u3 {k i j : Nat} {v : Int32} (h7 : 7 ≠ k) (h8 : 8 ≠ k) (h9 : 9 ≠ k) : KCs (u3 sg k i j v) = KCs sg := by
  funext rc na p b
  have e1 : stdb (u3 sg k i j v) rc p b = stdb sg rc p b := by funext a; unfold stdb; rw [u3_k h7, u3_k h9]
  have e2 : sets (u3 sg k i j v) = sets sg := by funext a; unfold sets; rw [u3_k h8]
  unfold KCs
  rw [e1, e2]
theorem PT.xu {p : Nat} {bu : Int32} {rk rf rt fr : Nat → Int32} {KF : Nat → Nat → Int32} {KC : Nat → Nat} (h : PT E al w p bu rk rf rt fr KF KC) {t : Tg} {e : va_E} (hn : ¬ (2 ≤ t.1 ∧ t.1 ≤ 5 ∧ t.2.1 = p)) : PT E al (xu w t e) p bu rk rf rt fr KF KC :=
  h.mv (fun u h1 h2 h3 => xu_ne (fun q => hn (by rw [← q]; exact ⟨h1, h2, h3⟩))) (fun _ _ _ _ => rfl)
theorem RA.xu (h : RA E al w nf np na nw) {t : Tg} {e : va_E} (hn : t.1 ≠ 0) : RA E al (xu w t e) nf np na nw := h.of (fun u hu => xu_ne (fun q => hn (by rw [← q]; exact hu))) (fun _ _ => rfl)
theorem RMg_seal (h : RMg E al w nf np na nw sg rc KF KC) {f : Nat} {x : Int32} (hf : f < nf) : RMg E al (xu w (1, f, 0) (.inr (2, [.int (sg 1 f 0), .int x]))) nf np na nw (u3 sg 2 f 0 x) rc KF KC := by
  obtain ⟨hA, hC, hP, hN⟩ := h
  refine ⟨hA.xu (by simp), fun i hi => ?_, fun p hp => ?_, fun a ha => ?_⟩
  · rw [u3_k (by decide)]
    by_cases e : i = f
    · subst e; rw [xu_self, u3_s]
    · rw [xu_ne (by simp [e]), u3_i e]; exact hC i hi
  · rw [u3_k (by decide), u3_k (by decide), u3_k (by decide), u3_k (by decide), u3_k (by decide)]
    exact (hP p hp).xu (by simp)
  · rw [xu_ne (by simp), u3_k (by decide), u3_k (by decide), u3_k (by decide), u3_k (by decide), u3_k (by decide)]; exact hN a ha
theorem RMg_num (h : RMg E al w nf np na nw sg rc KF KC) {f : Nat} {x : Int32} (hf : f < nf) : RMg E al (xu w (1, f, 0) (.inr (2, [.int x, .int (sg 2 f 0)]))) nf np na nw (u3 sg 1 f 0 x) rc KF KC := by
  obtain ⟨hA, hC, hP, hN⟩ := h
  refine ⟨hA.xu (by simp), fun i hi => ?_, fun p hp => ?_, fun a ha => ?_⟩
  · rw [u3_k (a := 2) (by decide)]
    by_cases e : i = f
    · subst e; rw [xu_self, u3_s]
    · rw [xu_ne (by simp [e]), u3_i e]; exact hC i hi
  · rw [u3_k (by decide), u3_k (by decide), u3_k (by decide), u3_k (by decide), u3_k (by decide)]
    exact (hP p hp).xu (by simp)
  · rw [xu_ne (by simp), u3_k (by decide), u3_k (by decide), u3_k (by decide), u3_k (by decide), u3_k (by decide)]; exact hN a ha
theorem RMg_bu (h : RMg E al w nf np na nw sg rc KF KC) {p : Nat} {x : Int32} (hp : p < np) : RMg E al (xu w (2, p, 0) (.inr (5, [.int (nI p), .int x, .ref (al (2, p, 1)), .ref (al (2, p, 2)), .ref (al (2, p, 3))]))) nf np na nw (u3 sg 3 p 0 x) rc KF KC := by
  obtain ⟨hA, hC, hP, hN⟩ := h
  refine ⟨hA.xu (by simp), fun i hi => ?_, fun q hq => ?_, fun a ha => ?_⟩
  · rw [xu_ne (by simp), u3_k (by decide), u3_k (by decide)]; exact hC i hi
  · rw [u3_k (a := 4) (by decide), u3_k (a := 5) (by decide), u3_k (a := 6) (by decide), u3_k (a := 13) (by decide)]
    by_cases e : q = p
    · subst e
      obtain ⟨h0, h1, h2, h3, h4, h5, h6⟩ := hP q hq
      rw [u3_s]
      exact ⟨xu_self _ _ _, xu_of (by simp) h1, xu_of (by simp) h2, xu_of (by simp) h3, fun f hf hk => xu_of (by simp) (h4 f hf hk), fun b hb => xu_of (by simp) (h5 b hb), fun b hb => xu_of (by simp) (h6 b hb)⟩
    · rw [u3_i e]; exact (hP q hq).xu (by simp; exact fun z => e z.symm)
  · rw [xu_ne (by simp), u3_k (by decide), u3_k (by decide), u3_k (by decide), u3_k (by decide), u3_k (by decide)]; exact hN a ha
theorem RMg_fr (h : RMg E al w nf np na nw sg rc KF KC) {p k : Nat} {x : Int32} (hp : p < np) : RMg E al (xu w (2, p, 3) (.inl (E.2.1 0, 5, .inl (upd (sg 13 p) k x)))) nf np na nw (u3 sg 13 p k x) rc KF KC := by
  obtain ⟨hA, hC, hP, hN⟩ := h
  refine ⟨hA.xu (by simp), fun i hi => ?_, fun q hq => ?_, fun a ha => ?_⟩
  · rw [xu_ne (by simp), u3_k (by decide), u3_k (by decide)]; exact hC i hi
  · rw [u3_k (a := 3) (by decide), u3_k (a := 4) (by decide), u3_k (a := 5) (by decide), u3_k (a := 6) (by decide)]
    by_cases e : q = p
    · subst e
      obtain ⟨h0, h1, h2, h3, h4, h5, h6⟩ := hP q hq
      rw [u3_row]
      exact ⟨xu_of (by simp) h0, xu_of (by simp) h1, xu_of (by simp) h2, xu_self _ _ _, fun f hf hk => xu_of (by simp) (h4 f hf hk), fun b hb => xu_of (by simp) (h5 b hb), fun b hb => xu_of (by simp) (h6 b hb)⟩
    · rw [u3_i e]; exact (hP q hq).xu (by simp; exact fun z => e z.symm)
  · rw [xu_ne (by simp), u3_k (by decide), u3_k (by decide), u3_k (by decide), u3_k (by decide), u3_k (by decide)]; exact hN a ha
theorem RMg_rt0 (h : RMg E al w nf np na nw sg rc KF KC) {p f : Nat} (hp : p < np) : RMg E al (xu w (2, p, 1) (.inl (E.2.1 4, 16, .inr (.inr (.inr (.inr (va_up (fun f => if sg 4 p f = 0 then none else some (al (3, p, f))) f none))))))) nf np na nw (u3 sg 4 p f 0) rc KF KC := by
  obtain ⟨hA, hC, hP, hN⟩ := h
  refine ⟨hA.xu (by simp), fun i hi => ?_, fun q hq => ?_, fun a ha => ?_⟩
  · rw [xu_ne (by simp), u3_k (by decide), u3_k (by decide)]; exact hC i hi
  · rw [u3_k (a := 3) (by decide), u3_k (a := 13) (by decide), u3_k (a := 5) (by decide), u3_k (a := 6) (by decide)]
    by_cases e : q = p
    · subst e
      obtain ⟨h0, h1, h2, h3, h4, h5, h6⟩ := hP q hq
      rw [u3_row]
      have e1 : va_up (fun f => if sg 4 q f = 0 then none else some (al (3, q, f))) f none = fun g => if upd (sg 4 q) f 0 g = 0 then none else some (al (3, q, g)) := by
        funext g
        show (if g = f then none else if sg 4 q g = 0 then none else some (al (3, q, g))) = if (if g = f then (0 : Int32) else sg 4 q g) = 0 then none else some (al (3, q, g))
        by_cases e : g = f
        · rw [if_pos e, if_pos e, if_pos rfl]
        · rw [if_neg e, if_neg e]
      rw [e1]
      refine ⟨xu_of (by simp) h0, xu_self _ _ _, xu_of (by simp) h2, xu_of (by simp) h3, fun g hg hk => ?_, fun b hb => xu_of (by simp) (h5 b hb), fun b hb => xu_of (by simp) (h6 b hb)⟩
      by_cases e : g = f
      · exact absurd (if_pos e) hk
      · have e2 : upd (sg 4 q) f 0 g = sg 4 q g := if_neg e
        rw [e2] at hk ⊢
        exact xu_of (by simp) (h4 g hg hk)
    · rw [u3_i e]; exact (hP q hq).xu (by simp; exact fun z => e z.symm)
  · rw [xu_ne (by simp), u3_k (by decide), u3_k (by decide), u3_k (by decide), u3_k (by decide), u3_k (by decide)]; exact hN a ha
/-- a right is given: the new one lay under the tag (9,9,9) -/
theorem RMg_rt (h : RMg E al w nf np na nw sg rc KF KC) {p f q0 : Nat} {k a b : Int32} (hp : p < np) (hk0 : k ≠ 0) : RMg E (xa (xa al (9, 9, 9) q0) (3, p, f) (xa al (9, 9, 9) q0 (9, 9, 9))) (xmv (xu (xu w (9, 9, 9) (.inr (6, [.int k, .int a, .int b]))) (2, p, 1) (.inl (E.2.1 4, 16, .inr (.inr (.inr (.inr (va_up (fun f => if sg 4 p f = 0 then none else some (al (3, p, f))) f (some q0)))))))) (3, p, f) (9, 9, 9)) nf np na nw (u3 (u3 (u3 sg 4 p f k) 5 p f a) 6 p f b) rc KF KC := by
  obtain ⟨hA, hC, hP, hN⟩ := h
  rw [xa_self]
  have wo : ∀ t : Tg, t ≠ (3, p, f) → t ≠ (9, 9, 9) → t ≠ (2, p, 1) → xmv (xu (xu w (9, 9, 9) (.inr (6, [.int k, .int a, .int b]))) (2, p, 1) (.inl (E.2.1 4, 16, .inr (.inr (.inr (.inr (va_up (fun f => if sg 4 p f = 0 then none else some (al (3, p, f))) f (some q0)))))))) (3, p, f) (9, 9, 9) t = w t := fun t h1 h2 h3 => by
    unfold xmv; rw [if_neg h1, if_neg h2, xu_ne h3, xu_ne h2]
  have ao : ∀ t : Tg, t ≠ (3, p, f) → t ≠ (9, 9, 9) → xa (xa al (9, 9, 9) q0) (3, p, f) q0 t = al t := fun t h1 h2 => by rw [xa_ne h1, xa_ne h2]
  refine ⟨hA.of (fun t ht => wo t (fun e => by rw [e] at ht; cases ht) (fun e => by rw [e] at ht; cases ht) (fun e => by rw [e] at ht; cases ht)) (fun t ht => ao t (fun e => by rw [e] at ht; simp at ht) (fun e => by rw [e] at ht; simp at ht)), fun i hi => ?_, fun q hq => ?_, fun z hz => ?_⟩
  · rw [wo _ (by simp) (by simp) (by simp), u3_k (by decide), u3_k (by decide), u3_k (by decide), u3_k (by decide), u3_k (by decide), u3_k (by decide)]; exact hC i hi
  · have e3 : ∀ z, z = 3 ∨ z = 13 → u3 (u3 (u3 sg 4 p f k) 5 p f a) 6 p f b z = sg z := fun z hz => by rw [u3_k (by omega), u3_k (by omega), u3_k (by omega)]
    have e4 : u3 (u3 (u3 sg 4 p f k) 5 p f a) 6 p f b 4 = u3 sg 4 p f k 4 := by rw [u3_k (by decide), u3_k (by decide)]
    have e5 : u3 (u3 (u3 sg 4 p f k) 5 p f a) 6 p f b 5 = u3 sg 5 p f a 5 := by
      rw [u3_k (by decide)]
      funext x y
      show (if 5 = 5 ∧ x = p ∧ y = f then a else u3 sg 4 p f k 5 x y) = if 5 = 5 ∧ x = p ∧ y = f then a else sg 5 x y
      rw [u3_k (by decide)]
    have e6 : u3 (u3 (u3 sg 4 p f k) 5 p f a) 6 p f b 6 = u3 sg 6 p f b 6 := by
      funext x y
      show (if 6 = 6 ∧ x = p ∧ y = f then b else u3 (u3 sg 4 p f k) 5 p f a 6 x y) = if 6 = 6 ∧ x = p ∧ y = f then b else sg 6 x y
      rw [u3_k (by decide), u3_k (by decide)]
    rw [e3 3 (by omega), e3 13 (by omega), e4, e5, e6]
    by_cases e : q = p
    · subst e
      obtain ⟨h0, h1, h2, h3, h4, h5, h6⟩ := hP q hq
      rw [u3_row, u3_row, u3_row]
      refine ⟨?_, ?_, ?_, ?_, fun g hg hk => ?_, fun i hi => ?_, fun i hi => ?_⟩
      · rw [wo _ (by simp) (by simp) (by simp), ao _ (by simp) (by simp), ao _ (by simp) (by simp), ao _ (by simp) (by simp)]; exact h0
      · unfold xmv
        rw [if_neg (by simp), if_neg (by simp), xu_self]
        have e1 : va_up (fun f => if sg 4 q f = 0 then none else some (al (3, q, f))) f (some q0) = fun g => if upd (sg 4 q) f k g = 0 then none else some (xa (xa al (9, 9, 9) q0) (3, q, f) q0 (3, q, g)) := by
          funext g
          show (if g = f then some q0 else if sg 4 q g = 0 then none else some (al (3, q, g))) = if (if g = f then k else sg 4 q g) = 0 then none else some (xa (xa al (9, 9, 9) q0) (3, q, f) q0 (3, q, g))
          by_cases e : g = f
          · rw [if_pos e, if_pos e, if_neg hk0, e, xa_self]
          · rw [if_neg e, if_neg e, ao _ (by simp [e]) (by simp)]
        rw [e1]
      · rw [wo _ (by simp) (by simp) (by simp), h2]
        have e1 : (fun b => some (al (4, q, b))) = fun b => some (xa (xa al (9, 9, 9) q0) (3, q, f) q0 (4, q, b)) := by
          funext b; rw [ao _ (by simp) (by simp)]
        rw [e1]
      · rw [wo _ (by simp) (by simp) (by simp)]; exact h3
      · by_cases e : g = f
        · subst e
          have u : ∀ (F : Nat → Int32) (v : Int32), upd F g v g = v := fun F v => if_pos rfl
          rw [u, u, u]
          unfold xmv
          rw [if_pos rfl, xu_ne (by simp), xu_self]
        · have u : ∀ (F : Nat → Int32) (v : Int32), upd F f v g = F g := fun F v => if_neg e
          rw [u] at hk
          rw [u, u, u, wo _ (by simp [e]) (by simp) (by simp)]
          exact h4 g hg hk
      · rw [wo _ (by simp) (by simp) (by simp), ao _ (by simp) (by simp)]; exact h5 i hi
      · rw [wo _ (by simp) (by simp) (by simp)]; exact h6 i hi
    · rw [u3_i e, u3_i e, u3_i e]
      refine (hP q hq).mv (fun t h1 h2 h3 => wo t ?_ ?_ ?_) (fun t h1 h2 h3 => ao t ?_ ?_)
      · intro z; rw [z] at h3; exact e h3.symm
      · intro z; rw [z] at h2; exact absurd h2 (by decide)
      · intro z; rw [z] at h3; exact e h3.symm
      · intro z; rw [z] at h3; exact e h3.symm
      · intro z; rw [z] at h2; exact absurd h2 (by decide)
  · rw [wo _ (by simp) (by simp) (by simp)]
    have e : ∀ y, y = 7 ∨ y = 8 ∨ y = 9 ∨ y = 10 ∨ y = 11 → u3 (u3 (u3 sg 4 p f k) 5 p f a) 6 p f b y = sg y := fun y hy => by rw [u3_k (by omega), u3_k (by omega), u3_k (by omega)]
    rw [e 7 (by omega), e 8 (by omega), e 9 (by omega), e 10 (by omega), e 11 (by omega)]; exact hN z hz
end RMS
