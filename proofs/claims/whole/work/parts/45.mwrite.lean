def PM (E : xE) (base : Nat) (al : Tg → Nat) (w : Tg → Option va_E) (th : Int32) (nf np na nw : Nat) (sg : Nat → Nat → Nat → Int32) (rc : Nat → Bool) (H : Heap) : Prop :=
  ∃ (w' : Tg → Option va_E) (fr' : Nat → Int32), xH E base al w' H ∧ MMf E al w' th nf np na nw sg rc fr' ∧ ∀ t : Tg, t.1 ≠ 10 → w' t = w t
section MMU
variable {E : xE} {base : Nat} {al : Tg → Nat} {w w' : Tg → Option va_E} {th : Int32} {nf np na nw : Nat} {sg : Nat → Nat → Nat → Int32} {rc : Nat → Bool} {fr : Nat → Int32} {H : Heap}
theorem MMf.goes (h : MMf E al w th nf np na nw sg rc fr) (th' : Int32) : MMf E al (xu w (10, 0, 0) (.inr (8, [.int th', .int (nI nw), .int (nI nf), .ref (al (10, 3, 0)), .ref (al (10, 4, 0)), .int (nI np), .ref (al (10, 6, 0)), .ref (al (10, 7, 0)), .ref (al (10, 8, 0)), .ref (al (10, 9, 0)), .int (nI na), .ref (al (10, 11, 0)), .ref (al (10, 12, 0)), .ref (al (10, 13, 0)), .ref (al (10, 14, 0)), .ref (al (10, 15, 0)), .ref (al (10, 16, 0)), .ref (al (10, 17, 0)), .ref (al (10, 18, 0))]))) th' nf np na nw sg rc fr := by
  obtain ⟨hM, mm3, mm4, mm6, mm7, mm8, mm9, mm11, mm12, mm13, mm14, mm15, mm16, mm17, mm18⟩ := h
  exact ⟨xu_self _ _ _, xu_of (by simp) mm3, xu_of (by simp) mm4, xu_of (by simp) mm6, xu_of (by simp) mm7, xu_of (by simp) mm8, xu_of (by simp) mm9, xu_of (by simp) mm11, xu_of (by simp) mm12, xu_of (by simp) mm13, xu_of (by simp) mm14, xu_of (by simp) mm15, xu_of (by simp) mm16, xu_of (by simp) mm17, xu_of (by simp) mm18⟩
theorem PM_of (hH : xH E base al w' H) (hM : MMf E al w' th nf np na nw sg rc fr) (hf : ∀ t : Tg, t.1 ≠ 10 → w' t = w t) : PM E base al w th nf np na nw sg rc H := ⟨w', fr, hH, hM, hf⟩
theorem PM_th {th' : Int32} (hH : xH E base al (xu w (10, 0, 0) (.inr (8, [.int th', .int (nI nw), .int (nI nf), .ref (al (10, 3, 0)), .ref (al (10, 4, 0)), .int (nI np), .ref (al (10, 6, 0)), .ref (al (10, 7, 0)), .ref (al (10, 8, 0)), .ref (al (10, 9, 0)), .int (nI na), .ref (al (10, 11, 0)), .ref (al (10, 12, 0)), .ref (al (10, 13, 0)), .ref (al (10, 14, 0)), .ref (al (10, 15, 0)), .ref (al (10, 16, 0)), .ref (al (10, 17, 0)), .ref (al (10, 18, 0))]))) H) (hM : MMf E al w th nf np na nw sg rc fr) : PM E base al w th' nf np na nw sg rc H := PM_of hH (hM.goes th') (fun t ht => xu_ne (fun e => ht (by rw [e])))
theorem u3_upd {k : Nat} {f : Nat} {y : Int32} : (fun i => u3 sg k f 0 y k i 0) = upd (fun i => sg k i 0) f y := by
  funext i
  show (if k = k ∧ i = f ∧ 0 = 0 then y else sg k i 0) = if i = f then y else sg k i 0
  by_cases e : i = f
  · rw [if_pos ⟨rfl, e, rfl⟩, if_pos e]
  · rw [if_neg (fun q => e q.2.1), if_neg e]
theorem u3_upd2 {k p f m : Nat} {y : Int32} (hf : f < m) : (fun i => u3 sg k p f y k (i / m) (i % m)) = upd (fun i => sg k (i / m) (i % m)) (m * p + f) y := by
  funext i
  show (if k = k ∧ i / m = p ∧ i % m = f then y else sg k (i / m) (i % m)) = if i = m * p + f then y else sg k (i / m) (i % m)
  by_cases e : i = m * p + f
  · have h1 : i / m = p := by rw [e, Nat.mul_add_div (by omega), Nat.div_eq_of_lt hf, Nat.add_zero]
    have h2 : i % m = f := by rw [e, Nat.mul_add_mod, Nat.mod_eq_of_lt hf]
    rw [if_pos ⟨rfl, h1, h2⟩, if_pos e]
  · rw [if_neg (fun q => e (by rw [← q.2.1, ← q.2.2]; exact (Nat.div_add_mod i m).symm)), if_neg e]
theorem MMf.s1 (h : MMf E al w th nf np na nw sg rc fr) {f : Nat} {y : Int32} : MMf E al (xu w (10, 3, 0) (.inl (E.2.1 0, 16, .inl (upd (fun i => sg 1 i 0) (f) y)))) th nf np na nw (u3 sg 1 f 0 y) rc fr := by
  obtain ⟨hM, mm3, mm4, mm6, mm7, mm8, mm9, mm11, mm12, mm13, mm14, mm15, mm16, mm17, mm18⟩ := h
  exact ⟨xu_of (by simp) hM, by rw [show (fun i => (u3 sg 1 f 0 y) 1 i 0) = upd (fun i => sg 1 i 0) (f) y from u3_upd]; exact xu_self _ _ _, by rw [u3_k (a := 2) (by decide)]; exact xu_of (by simp) mm4, by rw [u3_k (a := 3) (by decide)]; exact xu_of (by simp) mm6, by rw [u3_k (a := 4) (by decide)]; exact xu_of (by simp) mm7, by rw [u3_k (a := 5) (by decide)]; exact xu_of (by simp) mm8, by rw [u3_k (a := 6) (by decide)]; exact xu_of (by simp) mm9, by rw [u3_k (a := 7) (by decide)]; exact xu_of (by simp) mm11, by rw [u3_k (a := 8) (by decide)]; exact xu_of (by simp) mm12, by rw [u3_k (a := 9) (by decide)]; exact xu_of (by simp) mm13, by rw [u3_k (a := 10) (by decide)]; exact xu_of (by simp) mm14, by rw [u3_k (a := 11) (by decide)]; exact xu_of (by simp) mm15, xu_of (by simp) mm16, by rw [u3_k (a := 13) (by decide)]; exact xu_of (by simp) mm17, xu_of (by simp) mm18⟩
theorem MMf.s2 (h : MMf E al w th nf np na nw sg rc fr) {f : Nat} {y : Int32} : MMf E al (xu w (10, 4, 0) (.inl (E.2.1 0, 16, .inl (upd (fun i => sg 2 i 0) (f) y)))) th nf np na nw (u3 sg 2 f 0 y) rc fr := by
  obtain ⟨hM, mm3, mm4, mm6, mm7, mm8, mm9, mm11, mm12, mm13, mm14, mm15, mm16, mm17, mm18⟩ := h
  exact ⟨xu_of (by simp) hM, by rw [u3_k (a := 1) (by decide)]; exact xu_of (by simp) mm3, by rw [show (fun i => (u3 sg 2 f 0 y) 2 i 0) = upd (fun i => sg 2 i 0) (f) y from u3_upd]; exact xu_self _ _ _, by rw [u3_k (a := 3) (by decide)]; exact xu_of (by simp) mm6, by rw [u3_k (a := 4) (by decide)]; exact xu_of (by simp) mm7, by rw [u3_k (a := 5) (by decide)]; exact xu_of (by simp) mm8, by rw [u3_k (a := 6) (by decide)]; exact xu_of (by simp) mm9, by rw [u3_k (a := 7) (by decide)]; exact xu_of (by simp) mm11, by rw [u3_k (a := 8) (by decide)]; exact xu_of (by simp) mm12, by rw [u3_k (a := 9) (by decide)]; exact xu_of (by simp) mm13, by rw [u3_k (a := 10) (by decide)]; exact xu_of (by simp) mm14, by rw [u3_k (a := 11) (by decide)]; exact xu_of (by simp) mm15, xu_of (by simp) mm16, by rw [u3_k (a := 13) (by decide)]; exact xu_of (by simp) mm17, xu_of (by simp) mm18⟩
theorem MMf.s3 (h : MMf E al w th nf np na nw sg rc fr) {f : Nat} {y : Int32} : MMf E al (xu w (10, 6, 0) (.inl (E.2.1 0, 6, .inl (upd (fun i => sg 3 i 0) (f) y)))) th nf np na nw (u3 sg 3 f 0 y) rc fr := by
  obtain ⟨hM, mm3, mm4, mm6, mm7, mm8, mm9, mm11, mm12, mm13, mm14, mm15, mm16, mm17, mm18⟩ := h
  exact ⟨xu_of (by simp) hM, by rw [u3_k (a := 1) (by decide)]; exact xu_of (by simp) mm3, by rw [u3_k (a := 2) (by decide)]; exact xu_of (by simp) mm4, by rw [show (fun i => (u3 sg 3 f 0 y) 3 i 0) = upd (fun i => sg 3 i 0) (f) y from u3_upd]; exact xu_self _ _ _, by rw [u3_k (a := 4) (by decide)]; exact xu_of (by simp) mm7, by rw [u3_k (a := 5) (by decide)]; exact xu_of (by simp) mm8, by rw [u3_k (a := 6) (by decide)]; exact xu_of (by simp) mm9, by rw [u3_k (a := 7) (by decide)]; exact xu_of (by simp) mm11, by rw [u3_k (a := 8) (by decide)]; exact xu_of (by simp) mm12, by rw [u3_k (a := 9) (by decide)]; exact xu_of (by simp) mm13, by rw [u3_k (a := 10) (by decide)]; exact xu_of (by simp) mm14, by rw [u3_k (a := 11) (by decide)]; exact xu_of (by simp) mm15, xu_of (by simp) mm16, by rw [u3_k (a := 13) (by decide)]; exact xu_of (by simp) mm17, xu_of (by simp) mm18⟩
theorem MMf.s4 (h : MMf E al w th nf np na nw sg rc fr) {p f : Nat} {y : Int32} (hf : f < 16) : MMf E al (xu w (10, 7, 0) (.inl (E.2.1 0, 96, .inl (upd (fun k => sg 4 (k / 16) (k % 16)) (16 * p + f) y)))) th nf np na nw (u3 sg 4 p f y) rc fr := by
  obtain ⟨hM, mm3, mm4, mm6, mm7, mm8, mm9, mm11, mm12, mm13, mm14, mm15, mm16, mm17, mm18⟩ := h
  exact ⟨xu_of (by simp) hM, by rw [u3_k (a := 1) (by decide)]; exact xu_of (by simp) mm3, by rw [u3_k (a := 2) (by decide)]; exact xu_of (by simp) mm4, by rw [u3_k (a := 3) (by decide)]; exact xu_of (by simp) mm6, by rw [show (fun k => (u3 sg 4 p f y) 4 (k / 16) (k % 16)) = upd (fun k => sg 4 (k / 16) (k % 16)) (16 * p + f) y from u3_upd2 hf]; exact xu_self _ _ _, by rw [u3_k (a := 5) (by decide)]; exact xu_of (by simp) mm8, by rw [u3_k (a := 6) (by decide)]; exact xu_of (by simp) mm9, by rw [u3_k (a := 7) (by decide)]; exact xu_of (by simp) mm11, by rw [u3_k (a := 8) (by decide)]; exact xu_of (by simp) mm12, by rw [u3_k (a := 9) (by decide)]; exact xu_of (by simp) mm13, by rw [u3_k (a := 10) (by decide)]; exact xu_of (by simp) mm14, by rw [u3_k (a := 11) (by decide)]; exact xu_of (by simp) mm15, xu_of (by simp) mm16, by rw [u3_k (a := 13) (by decide)]; exact xu_of (by simp) mm17, xu_of (by simp) mm18⟩
theorem MMf.s5 (h : MMf E al w th nf np na nw sg rc fr) {p f : Nat} {y : Int32} (hf : f < 16) : MMf E al (xu w (10, 8, 0) (.inl (E.2.1 0, 96, .inl (upd (fun k => sg 5 (k / 16) (k % 16)) (16 * p + f) y)))) th nf np na nw (u3 sg 5 p f y) rc fr := by
  obtain ⟨hM, mm3, mm4, mm6, mm7, mm8, mm9, mm11, mm12, mm13, mm14, mm15, mm16, mm17, mm18⟩ := h
  exact ⟨xu_of (by simp) hM, by rw [u3_k (a := 1) (by decide)]; exact xu_of (by simp) mm3, by rw [u3_k (a := 2) (by decide)]; exact xu_of (by simp) mm4, by rw [u3_k (a := 3) (by decide)]; exact xu_of (by simp) mm6, by rw [u3_k (a := 4) (by decide)]; exact xu_of (by simp) mm7, by rw [show (fun k => (u3 sg 5 p f y) 5 (k / 16) (k % 16)) = upd (fun k => sg 5 (k / 16) (k % 16)) (16 * p + f) y from u3_upd2 hf]; exact xu_self _ _ _, by rw [u3_k (a := 6) (by decide)]; exact xu_of (by simp) mm9, by rw [u3_k (a := 7) (by decide)]; exact xu_of (by simp) mm11, by rw [u3_k (a := 8) (by decide)]; exact xu_of (by simp) mm12, by rw [u3_k (a := 9) (by decide)]; exact xu_of (by simp) mm13, by rw [u3_k (a := 10) (by decide)]; exact xu_of (by simp) mm14, by rw [u3_k (a := 11) (by decide)]; exact xu_of (by simp) mm15, xu_of (by simp) mm16, by rw [u3_k (a := 13) (by decide)]; exact xu_of (by simp) mm17, xu_of (by simp) mm18⟩
theorem MMf.s6 (h : MMf E al w th nf np na nw sg rc fr) {p f : Nat} {y : Int32} (hf : f < 16) : MMf E al (xu w (10, 9, 0) (.inl (E.2.1 0, 96, .inl (upd (fun k => sg 6 (k / 16) (k % 16)) (16 * p + f) y)))) th nf np na nw (u3 sg 6 p f y) rc fr := by
  obtain ⟨hM, mm3, mm4, mm6, mm7, mm8, mm9, mm11, mm12, mm13, mm14, mm15, mm16, mm17, mm18⟩ := h
  exact ⟨xu_of (by simp) hM, by rw [u3_k (a := 1) (by decide)]; exact xu_of (by simp) mm3, by rw [u3_k (a := 2) (by decide)]; exact xu_of (by simp) mm4, by rw [u3_k (a := 3) (by decide)]; exact xu_of (by simp) mm6, by rw [u3_k (a := 4) (by decide)]; exact xu_of (by simp) mm7, by rw [u3_k (a := 5) (by decide)]; exact xu_of (by simp) mm8, by rw [show (fun k => (u3 sg 6 p f y) 6 (k / 16) (k % 16)) = upd (fun k => sg 6 (k / 16) (k % 16)) (16 * p + f) y from u3_upd2 hf]; exact xu_self _ _ _, by rw [u3_k (a := 7) (by decide)]; exact xu_of (by simp) mm11, by rw [u3_k (a := 8) (by decide)]; exact xu_of (by simp) mm12, by rw [u3_k (a := 9) (by decide)]; exact xu_of (by simp) mm13, by rw [u3_k (a := 10) (by decide)]; exact xu_of (by simp) mm14, by rw [u3_k (a := 11) (by decide)]; exact xu_of (by simp) mm15, xu_of (by simp) mm16, by rw [u3_k (a := 13) (by decide)]; exact xu_of (by simp) mm17, xu_of (by simp) mm18⟩
theorem MMf.s13 (h : MMf E al w th nf np na nw sg rc fr) {p f : Nat} {y : Int32} (hf : f < 6) : MMf E al (xu w (10, 17, 0) (.inl (E.2.1 0, 36, .inl (upd (fun k => sg 13 (k / 6) (k % 6)) (6 * p + f) y)))) th nf np na nw (u3 sg 13 p f y) rc fr := by
  obtain ⟨hM, mm3, mm4, mm6, mm7, mm8, mm9, mm11, mm12, mm13, mm14, mm15, mm16, mm17, mm18⟩ := h
  exact ⟨xu_of (by simp) hM, by rw [u3_k (a := 1) (by decide)]; exact xu_of (by simp) mm3, by rw [u3_k (a := 2) (by decide)]; exact xu_of (by simp) mm4, by rw [u3_k (a := 3) (by decide)]; exact xu_of (by simp) mm6, by rw [u3_k (a := 4) (by decide)]; exact xu_of (by simp) mm7, by rw [u3_k (a := 5) (by decide)]; exact xu_of (by simp) mm8, by rw [u3_k (a := 6) (by decide)]; exact xu_of (by simp) mm9, by rw [u3_k (a := 7) (by decide)]; exact xu_of (by simp) mm11, by rw [u3_k (a := 8) (by decide)]; exact xu_of (by simp) mm12, by rw [u3_k (a := 9) (by decide)]; exact xu_of (by simp) mm13, by rw [u3_k (a := 10) (by decide)]; exact xu_of (by simp) mm14, by rw [u3_k (a := 11) (by decide)]; exact xu_of (by simp) mm15, xu_of (by simp) mm16, by rw [show (fun k => (u3 sg 13 p f y) 13 (k / 6) (k % 6)) = upd (fun k => sg 13 (k / 6) (k % 6)) (6 * p + f) y from u3_upd2 hf]; exact xu_self _ _ _, xu_of (by simp) mm18⟩
theorem MMf.addF {x : Int32} (h : MMf E al w th nf np na nw sg rc fr) : MMf E al (xu (xu w (10, 3, 0) (.inl (E.2.1 0, 16, .inl (upd (fun i => sg 1 i 0) nf x)))) (10, 0, 0) (.inr (8, [.int th, .int (nI nw), .int (nI (nf + 1)), .ref (al (10, 3, 0)), .ref (al (10, 4, 0)), .int (nI np), .ref (al (10, 6, 0)), .ref (al (10, 7, 0)), .ref (al (10, 8, 0)), .ref (al (10, 9, 0)), .int (nI na), .ref (al (10, 11, 0)), .ref (al (10, 12, 0)), .ref (al (10, 13, 0)), .ref (al (10, 14, 0)), .ref (al (10, 15, 0)), .ref (al (10, 16, 0)), .ref (al (10, 17, 0)), .ref (al (10, 18, 0))]))) th (nf + 1) np na nw (u3 sg 1 nf 0 x) rc fr := by
  have h2 := h.s1 (f := nf) (y := x)
  obtain ⟨hM, mm3, mm4, mm6, mm7, mm8, mm9, mm11, mm12, mm13, mm14, mm15, mm16, mm17, mm18⟩ := h2
  exact ⟨xu_self _ _ _, xu_of (by simp) mm3, xu_of (by simp) mm4, xu_of (by simp) mm6, xu_of (by simp) mm7, xu_of (by simp) mm8, xu_of (by simp) mm9, xu_of (by simp) mm11, xu_of (by simp) mm12, xu_of (by simp) mm13, xu_of (by simp) mm14, xu_of (by simp) mm15, xu_of (by simp) mm16, xu_of (by simp) mm17, xu_of (by simp) mm18⟩
theorem MMf.addP {x : Int32} (h : MMf E al w th nf np na nw sg rc fr) : MMf E al (xu (xu w (10, 6, 0) (.inl (E.2.1 0, 6, .inl (upd (fun i => sg 3 i 0) np x)))) (10, 0, 0) (.inr (8, [.int th, .int (nI nw), .int (nI nf), .ref (al (10, 3, 0)), .ref (al (10, 4, 0)), .int (nI (np + 1)), .ref (al (10, 6, 0)), .ref (al (10, 7, 0)), .ref (al (10, 8, 0)), .ref (al (10, 9, 0)), .int (nI na), .ref (al (10, 11, 0)), .ref (al (10, 12, 0)), .ref (al (10, 13, 0)), .ref (al (10, 14, 0)), .ref (al (10, 15, 0)), .ref (al (10, 16, 0)), .ref (al (10, 17, 0)), .ref (al (10, 18, 0))]))) th nf (np + 1) na nw (u3 sg 3 np 0 x) rc fr := by
  have h2 := h.s3 (f := np) (y := x)
  obtain ⟨hM, mm3, mm4, mm6, mm7, mm8, mm9, mm11, mm12, mm13, mm14, mm15, mm16, mm17, mm18⟩ := h2
  exact ⟨xu_self _ _ _, xu_of (by simp) mm3, xu_of (by simp) mm4, xu_of (by simp) mm6, xu_of (by simp) mm7, xu_of (by simp) mm8, xu_of (by simp) mm9, xu_of (by simp) mm11, xu_of (by simp) mm12, xu_of (by simp) mm13, xu_of (by simp) mm14, xu_of (by simp) mm15, xu_of (by simp) mm16, xu_of (by simp) mm17, xu_of (by simp) mm18⟩
theorem MMf.now {k : Nat} (h : MMf E al w th nf np na nw sg rc fr) : MMf E al (xu w (10, 0, 0) (.inr (8, [.int th, .int (nI (nw + k)), .int (nI nf), .ref (al (10, 3, 0)), .ref (al (10, 4, 0)), .int (nI np), .ref (al (10, 6, 0)), .ref (al (10, 7, 0)), .ref (al (10, 8, 0)), .ref (al (10, 9, 0)), .int (nI na), .ref (al (10, 11, 0)), .ref (al (10, 12, 0)), .ref (al (10, 13, 0)), .ref (al (10, 14, 0)), .ref (al (10, 15, 0)), .ref (al (10, 16, 0)), .ref (al (10, 17, 0)), .ref (al (10, 18, 0))]))) th nf np na (nw + k) sg rc fr := by
  obtain ⟨hM, mm3, mm4, mm6, mm7, mm8, mm9, mm11, mm12, mm13, mm14, mm15, mm16, mm17, mm18⟩ := h
  exact ⟨xu_self _ _ _, xu_of (by simp) mm3, xu_of (by simp) mm4, xu_of (by simp) mm6, xu_of (by simp) mm7, xu_of (by simp) mm8, xu_of (by simp) mm9, xu_of (by simp) mm11, xu_of (by simp) mm12, xu_of (by simp) mm13, xu_of (by simp) mm14, xu_of (by simp) mm15, xu_of (by simp) mm16, xu_of (by simp) mm17, xu_of (by simp) mm18⟩
theorem rkP_all {f g : Nat} {y : Int32} : bsum (rkP (u3 sg 1 g 0 y) rc f (-1)) na = bsum (fun a => !rc a && bt (sg 8 a 0) f) na := by
  refine bsum_cong _ fun a _ => ?_
  unfold rkP
  rw [u3_k (by decide), u3_k (by decide)]; simp
theorem rcK_all {f g : Nat} {y : Int32} : rcK (u3 sg 1 g 0 y) rc f (-1) na = rcA sg rc na f := by
  funext a
  unfold rcK rcA
  rw [u3_k (by decide), u3_k (by decide)]; simp
end MMU
set_option maxHeartbeats 4000000 in
set_option maxRecDepth 100000 in
theorem m_seal (l : Launch) {E : xE} {base : Nat} {al : Tg → Nat} {w : Tg → Option va_E} {th : Int32} {nf np na nw : Nat} {sg : Nat → Nat → Nat → Int32} {rc : Nat → Bool} {fr : Nat → Int32} (hMM : MMf E al w th nf np na nw sg rc fr) (hI : INV nf np na nw sg rc) {x y : Int32} : xMet l yX7_seal cX7_seal 4 none ({ frames := 2, cells := 0, slots := 0, locals := 43 } : Room) E base [.ref (al (10, 0, 0)), .int x, .int y] (fun H => xH E base al w H) (fun r H => (r = none) ∧ ((¬ inR x nf ∧ PM E base al w (nI 1) nf np na nw sg rc H) ∨ (inR x nf ∧ ¬ (nI 0 ≤ y ∧ y ≤ nI 5000) ∧ PM E base al w (nI 2) nf np na nw sg rc H) ∨ (∃ f, f < nf ∧ x = nI f ∧ (nI 0 ≤ y ∧ y ≤ nI 5000) ∧ r = none ∧ PM E base al w (nI 0) nf np na nw (u3 sg 2 f 0 y) rc H))) := by
  refine xMet.of (by decide +kernel) "DataroomModel" rfl (Nat.le_of_ble_eq_true rfl) ?_
  intro p9 e9 s m9 below meth c9 ls C hin hP hS hl
  have hx := C.hx
  have hb := C.hb
  have hH := hP
  have hl : lv_has ls 4 [(0, .ref (al (10, 0, 0))), (1, .int x), (2, .int y)] := hl
  obtain ⟨post, hpost⟩ : ∃ zz9 : Option Value → Heap → Prop, zz9 = (fun r H => (r = none) ∧ ((¬ inR x nf ∧ PM E base al w (nI 1) nf np na nw sg rc H) ∨ (inR x nf ∧ ¬ (nI 0 ≤ y ∧ y ≤ nI 5000) ∧ PM E base al w (nI 2) nf np na nw sg rc H) ∨ (∃ f, f < nf ∧ x = nI f ∧ (nI 0 ≤ y ∧ y ≤ nI 5000) ∧ r = none ∧ PM E base al w (nI 0) nf np na nw (u3 sg 2 f 0 y) rc H))) := ⟨_, rfl⟩
  rw [← hpost]
  generalize hQ : (MQ below (xQ base post) ([.ref (al (10, 0, 0)), .int x, .int y] : List Value).toArray s 0 0 (xA base)) = Q
  have hMM0 := hMM
  obtain ⟨hM, mm3, mm4, mm6, mm7, mm8, mm9, mm11, mm12, mm13, mm14, mm15, mm16, mm17, mm18⟩ := hMM
  have hI0 := hI
  obtain ⟨v16, v6, v150, vnow, vA, vS, vP, vK, vR⟩ := hI
  refine lv_aload_n hx hb dX7_seal_0 rfl (lv_at hl 0 rfl) ?_
  refine lv_iload_n hx hb dX7_seal_1 rfl (lv_at hl 1 rfl) ?_
  refine x_callV C hH hS (ci := 8) (t := (10, 0, 0)) hM rfl rfl (m_isFile l (E := E) (base := base) hMM0 (x := x)) hH kX7_isFile qw_776 (ws_p (List.mem_of_getElem? (i := 20) rfl) rfl) qw_774  rfl [] rfl hl.1 (Nat.le_of_ble_eq_true rfl) ⟨Nat.le_of_ble_eq_true rfl, Nat.le_of_ble_eq_true rfl⟩ dX7_seal_2 ⟨Nat.le_of_ble_eq_true rfl, Nat.le_of_ble_eq_true rfl⟩ (fun r_2 H locs hp_1 hS => ?_)
  obtain ⟨rfl, hH⟩ := hp_1
  refine lv_istore_n (lv' := [(3, .int (ob (inRb x nf))), (0, .ref (al (10, 0, 0))), (1, .int x), (2, .int y)]) hx hb dX7_seal_5 rfl hl (by decide) rfl (fun ls hl => ?_)
  refine lv_aload_n hx hb dX7_seal_6 rfl (lv_at hl 1 rfl) ?_
  refine lv_iload_n hx hb dX7_seal_7 rfl (lv_at hl 0 rfl) ?_
  refine lv_if_ne (tgt := 15) hx hb dX7_seal_8 (by decide) (fun c_3 => ?_) (fun c_3 => ?_)
  · skip
    replace c_3 := ob_n.mp c_3
    refine lv_iload_n hx hb dX7_seal_15 rfl (lv_at hl 3 rfl) ?_
    refine lv_iconst (v := nI 0) hx hb dX7_seal_16 (by decide +kernel) ?_
    refine lv_sipush (v := nI 5000) hx hb dX7_seal_17 (by decide +kernel) ?_
    refine x_callS C hS (m_in l (E := E) (base := base) (al := al) (w := w) (v := y) (a := nI 0) (b := nI 5000)) hH kX7_in qw_764 qw_763  rfl [.ref (al (10, 0, 0))] rfl hl.1 (Nat.le_of_ble_eq_true rfl) ⟨Nat.le_of_ble_eq_true rfl, Nat.le_of_ble_eq_true rfl⟩ dX7_seal_20 ⟨Nat.le_of_ble_eq_true rfl, Nat.le_of_ble_eq_true rfl⟩ (fun r_5 H locs hp_4 hS => ?_)
    obtain ⟨rfl, hH⟩ := hp_4
    refine lv_if_eq (tgt := 30) hx hb dX7_seal_23 (by decide) (fun c_6 => ?_) (fun c_6 => ?_)
    · skip
      replace c_6 := ob_0.mp c_6
      refine lv_iconst (v := nI 2) hx hb dX7_seal_30 (by decide +kernel) ?_
      refine x_callV C hH hS (ci := 8) (t := (10, 0, 0)) hM rfl rfl (m_goes l (E := E) (base := base) hMM0 (k := 2) (by omega)) hH kX7_goesWell qw_768 (ws_p (List.mem_of_getElem? (i := 19) rfl) rfl) qw_766  rfl [] rfl hl.1 (Nat.le_of_ble_eq_true rfl) ⟨Nat.le_of_ble_eq_true rfl, Nat.le_of_ble_eq_true rfl⟩ dX7_seal_31 ⟨Nat.le_of_ble_eq_true rfl, Nat.le_of_ble_eq_true rfl⟩ (fun r_8 H locs hp_7 hS => ?_)
      obtain ⟨rfl, hH⟩ := hp_7
      have hMM1 := hMM0.goes (nI 2)
      have hMMx := hMM1
      obtain ⟨hM, mm3, mm4, mm6, mm7, mm8, mm9, mm11, mm12, mm13, mm14, mm15, mm16, mm17, mm18⟩ := hMMx
      refine lv_re (y := nI 0) rfl ?_
      refine lv_if_eq (tgt := 44) hx hb dX7_seal_34 (by decide) (fun c_9 => ?_) (fun c_9 => absurd (by decide +kernel) c_9)
      clear c_9
      rw [← hQ]
      refine x_retv C hS (Nat.le_of_ble_eq_true rfl) (Nat.le_of_ble_eq_true rfl) dX7_seal_44 ?_
      rw [hpost]
      exact ⟨rfl, Or.inr (Or.inl ⟨((inRb_iff (by omega)).mp c_3), inB_f c_6, PM_th hH hMM0⟩)⟩
    · skip
      replace c_6 := ob_n.mp c_6
      refine lv_iconst (v := nI 0) hx hb dX7_seal_26 (by decide +kernel) ?_
      refine lv_goto (tgt := 31) hx hb dX7_seal_27 (by decide) ?_
      refine x_callV C hH hS (ci := 8) (t := (10, 0, 0)) hM rfl rfl (m_goes l (E := E) (base := base) hMM0 (k := 0) (by omega)) hH kX7_goesWell qw_768 (ws_p (List.mem_of_getElem? (i := 19) rfl) rfl) qw_766  rfl [] rfl hl.1 (Nat.le_of_ble_eq_true rfl) ⟨Nat.le_of_ble_eq_true rfl, Nat.le_of_ble_eq_true rfl⟩ dX7_seal_31 ⟨Nat.le_of_ble_eq_true rfl, Nat.le_of_ble_eq_true rfl⟩ (fun r_11 H locs hp_10 hS => ?_)
      obtain ⟨rfl, hH⟩ := hp_10
      have hMM1 := hMM0.goes (nI 0)
      have hMMx := hMM1
      obtain ⟨hM, mm3, mm4, mm6, mm7, mm8, mm9, mm11, mm12, mm13, mm14, mm15, mm16, mm17, mm18⟩ := hMMx
      refine lv_re (y := nI 1) rfl ?_
      obtain ⟨f, hf9, rfl⟩ := (inRb_iff (by omega)).mp c_3
      refine lv_if_eq (tgt := 44) hx hb dX7_seal_34 (by decide) (fun c_12 => absurd c_12 (by decide +kernel)) (fun c_12 => ?_)
      clear c_12
      refine lv_aload_n hx hb dX7_seal_37 rfl (lv_at hl 1 rfl) ?_
      refine x_get C hH (ci := 8) (T := TX7) (N := 19) hM rfl iWX7 4 (by decide) qw_700 rfl rfl dX7_seal_38 ?_
      refine lv_iload_n hx hb dX7_seal_41 rfl (lv_at hl 2 rfl) ?_
      refine lv_iload_n hx hb dX7_seal_42 rfl (lv_at hl 3 rfl) ?_
      refine x_iast C hH hS mm4 (j := f) rfl (by omega) (by omega) dX7_seal_43 (fun H locs hH hS => ?_)
      have hM := xu_of (t := (10, 4, 0)) (e := .inl (E.2.1 0, 16, .inl (upd (fun i => sg 2 i 0) f y))) (by simp) hM
      have mm3 := xu_of (t := (10, 4, 0)) (e := .inl (E.2.1 0, 16, .inl (upd (fun i => sg 2 i 0) f y))) (by simp) mm3
      have mm6 := xu_of (t := (10, 4, 0)) (e := .inl (E.2.1 0, 16, .inl (upd (fun i => sg 2 i 0) f y))) (by simp) mm6
      have mm7 := xu_of (t := (10, 4, 0)) (e := .inl (E.2.1 0, 16, .inl (upd (fun i => sg 2 i 0) f y))) (by simp) mm7
      have mm8 := xu_of (t := (10, 4, 0)) (e := .inl (E.2.1 0, 16, .inl (upd (fun i => sg 2 i 0) f y))) (by simp) mm8
      have mm9 := xu_of (t := (10, 4, 0)) (e := .inl (E.2.1 0, 16, .inl (upd (fun i => sg 2 i 0) f y))) (by simp) mm9
      have mm11 := xu_of (t := (10, 4, 0)) (e := .inl (E.2.1 0, 16, .inl (upd (fun i => sg 2 i 0) f y))) (by simp) mm11
      have mm12 := xu_of (t := (10, 4, 0)) (e := .inl (E.2.1 0, 16, .inl (upd (fun i => sg 2 i 0) f y))) (by simp) mm12
      have mm13 := xu_of (t := (10, 4, 0)) (e := .inl (E.2.1 0, 16, .inl (upd (fun i => sg 2 i 0) f y))) (by simp) mm13
      have mm14 := xu_of (t := (10, 4, 0)) (e := .inl (E.2.1 0, 16, .inl (upd (fun i => sg 2 i 0) f y))) (by simp) mm14
      have mm15 := xu_of (t := (10, 4, 0)) (e := .inl (E.2.1 0, 16, .inl (upd (fun i => sg 2 i 0) f y))) (by simp) mm15
      have mm16 := xu_of (t := (10, 4, 0)) (e := .inl (E.2.1 0, 16, .inl (upd (fun i => sg 2 i 0) f y))) (by simp) mm16
      have mm17 := xu_of (t := (10, 4, 0)) (e := .inl (E.2.1 0, 16, .inl (upd (fun i => sg 2 i 0) f y))) (by simp) mm17
      have mm18 := xu_of (t := (10, 4, 0)) (e := .inl (E.2.1 0, 16, .inl (upd (fun i => sg 2 i 0) f y))) (by simp) mm18
      have mm4 : (xu (xu w (10, 0, 0) (.inr (8, [.int (nI 0), .int (nI nw), .int (nI nf), .ref (al (10, 3, 0)), .ref (al (10, 4, 0)), .int (nI np), .ref (al (10, 6, 0)), .ref (al (10, 7, 0)), .ref (al (10, 8, 0)), .ref (al (10, 9, 0)), .int (nI na), .ref (al (10, 11, 0)), .ref (al (10, 12, 0)), .ref (al (10, 13, 0)), .ref (al (10, 14, 0)), .ref (al (10, 15, 0)), .ref (al (10, 16, 0)), .ref (al (10, 17, 0)), .ref (al (10, 18, 0))]))) (10, 4, 0) (.inl (E.2.1 0, 16, .inl (upd (fun i => sg 2 i 0) f y)))) (10, 4, 0) = some (.inl (E.2.1 0, 16, .inl (upd (fun i => sg 2 i 0) f y))) := xu_self _ _ _
      rw [← hQ]
      refine x_retv C hS (Nat.le_of_ble_eq_true rfl) (Nat.le_of_ble_eq_true rfl) dX7_seal_44 ?_
      rw [hpost]
      exact ⟨rfl, Or.inr (Or.inr ⟨f, hf9, rfl, inB_t c_6, rfl, PM_of hH (hMM1.s2) (fun t ht => by rw [xu_ne (fun e => ht (by rw [e])), xu_ne (fun e => ht (by rw [e]))])⟩)⟩
  · skip
    replace c_3 := ob_0.mp c_3
    refine lv_iconst (v := nI 1) hx hb dX7_seal_11 (by decide +kernel) ?_
    refine lv_goto (tgt := 31) hx hb dX7_seal_12 (by decide) ?_
    refine x_callV C hH hS (ci := 8) (t := (10, 0, 0)) hM rfl rfl (m_goes l (E := E) (base := base) hMM0 (k := 1) (by omega)) hH kX7_goesWell qw_768 (ws_p (List.mem_of_getElem? (i := 19) rfl) rfl) qw_766  rfl [] rfl hl.1 (Nat.le_of_ble_eq_true rfl) ⟨Nat.le_of_ble_eq_true rfl, Nat.le_of_ble_eq_true rfl⟩ dX7_seal_31 ⟨Nat.le_of_ble_eq_true rfl, Nat.le_of_ble_eq_true rfl⟩ (fun r_14 H locs hp_13 hS => ?_)
    obtain ⟨rfl, hH⟩ := hp_13
    have hMM1 := hMM0.goes (nI 1)
    have hMMx := hMM1
    obtain ⟨hM, mm3, mm4, mm6, mm7, mm8, mm9, mm11, mm12, mm13, mm14, mm15, mm16, mm17, mm18⟩ := hMMx
    refine lv_re (y := nI 0) rfl ?_
    refine lv_if_eq (tgt := 44) hx hb dX7_seal_34 (by decide) (fun c_15 => ?_) (fun c_15 => absurd (by decide +kernel) c_15)
    clear c_15
    rw [← hQ]
    refine x_retv C hS (Nat.le_of_ble_eq_true rfl) (Nat.le_of_ble_eq_true rfl) dX7_seal_44 ?_
    rw [hpost]
    exact ⟨rfl, Or.inl ⟨(fun q => by rw [(inRb_iff (by omega)).mpr q] at c_3; cases c_3), PM_th hH hMM0⟩⟩

set_option maxHeartbeats 4000000 in
set_option maxRecDepth 100000 in
theorem m_budget (l : Launch) {E : xE} {base : Nat} {al : Tg → Nat} {w : Tg → Option va_E} {th : Int32} {nf np na nw : Nat} {sg : Nat → Nat → Nat → Int32} {rc : Nat → Bool} {fr : Nat → Int32} (hMM : MMf E al w th nf np na nw sg rc fr) (hI : INV nf np na nw sg rc) {x y : Int32} : xMet l yX7_budget cX7_budget 5 (some (.int)) ({ frames := 2, cells := 0, slots := 0, locals := 43 } : Room) E base [.ref (al (10, 0, 0)), .int x, .int y] (fun H => xH E base al w H) (fun r H => (∃ v9, r = some (.int v9)) ∧ ((¬ inR x np ∧ PM E base al w (nI 1) nf np na nw sg rc H) ∨ (inR x np ∧ ¬ (nI 0 ≤ y ∧ y ≤ nI 128) ∧ PM E base al w (nI 2) nf np na nw sg rc H) ∨ (∃ p, p < np ∧ x = nI p ∧ (nI 0 ≤ y ∧ y ≤ nI 128) ∧ r = some (.int (sg 3 p 0)) ∧ PM E base al w (nI 0) nf np na nw (u3 sg 3 p 0 y) rc H))) := by
  refine xMet.of (by decide +kernel) "DataroomModel" rfl (Nat.le_of_ble_eq_true rfl) ?_
  intro p9 e9 s m9 below meth c9 ls C hin hP hS hl
  have hx := C.hx
  have hb := C.hb
  have hH := hP
  have hl : lv_has ls 5 [(0, .ref (al (10, 0, 0))), (1, .int x), (2, .int y)] := hl
  obtain ⟨post, hpost⟩ : ∃ zz9 : Option Value → Heap → Prop, zz9 = (fun r H => (∃ v9, r = some (.int v9)) ∧ ((¬ inR x np ∧ PM E base al w (nI 1) nf np na nw sg rc H) ∨ (inR x np ∧ ¬ (nI 0 ≤ y ∧ y ≤ nI 128) ∧ PM E base al w (nI 2) nf np na nw sg rc H) ∨ (∃ p, p < np ∧ x = nI p ∧ (nI 0 ≤ y ∧ y ≤ nI 128) ∧ r = some (.int (sg 3 p 0)) ∧ PM E base al w (nI 0) nf np na nw (u3 sg 3 p 0 y) rc H))) := ⟨_, rfl⟩
  rw [← hpost]
  generalize hQ : (MQ below (xQ base post) ([.ref (al (10, 0, 0)), .int x, .int y] : List Value).toArray s 0 0 (xA base)) = Q
  have hMM0 := hMM
  obtain ⟨hM, mm3, mm4, mm6, mm7, mm8, mm9, mm11, mm12, mm13, mm14, mm15, mm16, mm17, mm18⟩ := hMM
  have hI0 := hI
  obtain ⟨v16, v6, v150, vnow, vA, vS, vP, vK, vR⟩ := hI
  refine lv_aload_n hx hb dX7_budget_0 rfl (lv_at hl 0 rfl) ?_
  refine lv_iload_n hx hb dX7_budget_1 rfl (lv_at hl 1 rfl) ?_
  refine x_callV C hH hS (ci := 8) (t := (10, 0, 0)) hM rfl rfl (m_isParty l (E := E) (base := base) hMM0 (x := x)) hH kX7_isParty qw_792 (ws_p (List.mem_of_getElem? (i := 22) rfl) rfl) qw_790  rfl [] rfl hl.1 (Nat.le_of_ble_eq_true rfl) ⟨Nat.le_of_ble_eq_true rfl, Nat.le_of_ble_eq_true rfl⟩ dX7_budget_2 ⟨Nat.le_of_ble_eq_true rfl, Nat.le_of_ble_eq_true rfl⟩ (fun r_2 H locs hp_1 hS => ?_)
  obtain ⟨rfl, hH⟩ := hp_1
  refine lv_istore_n (lv' := [(3, .int (ob (inRb x np))), (0, .ref (al (10, 0, 0))), (1, .int x), (2, .int y)]) hx hb dX7_budget_5 rfl hl (by decide) rfl (fun ls hl => ?_)
  refine lv_aload_n hx hb dX7_budget_6 rfl (lv_at hl 1 rfl) ?_
  refine lv_iload_n hx hb dX7_budget_7 rfl (lv_at hl 0 rfl) ?_
  refine lv_if_ne (tgt := 15) hx hb dX7_budget_8 (by decide) (fun c_3 => ?_) (fun c_3 => ?_)
  · skip
    replace c_3 := ob_n.mp c_3
    refine lv_iload_n hx hb dX7_budget_15 rfl (lv_at hl 3 rfl) ?_
    refine lv_iconst (v := nI 0) hx hb dX7_budget_16 (by decide +kernel) ?_
    refine lv_sipush (v := nI 128) hx hb dX7_budget_17 (by decide +kernel) ?_
    refine x_callS C hS (m_in l (E := E) (base := base) (al := al) (w := w) (v := y) (a := nI 0) (b := nI 128)) hH kX7_in qw_764 qw_763  rfl [.ref (al (10, 0, 0))] rfl hl.1 (Nat.le_of_ble_eq_true rfl) ⟨Nat.le_of_ble_eq_true rfl, Nat.le_of_ble_eq_true rfl⟩ dX7_budget_20 ⟨Nat.le_of_ble_eq_true rfl, Nat.le_of_ble_eq_true rfl⟩ (fun r_5 H locs hp_4 hS => ?_)
    obtain ⟨rfl, hH⟩ := hp_4
    refine lv_if_eq (tgt := 30) hx hb dX7_budget_23 (by decide) (fun c_6 => ?_) (fun c_6 => ?_)
    · skip
      replace c_6 := ob_0.mp c_6
      refine lv_iconst (v := nI 2) hx hb dX7_budget_30 (by decide +kernel) ?_
      refine x_callV C hH hS (ci := 8) (t := (10, 0, 0)) hM rfl rfl (m_goes l (E := E) (base := base) hMM0 (k := 2) (by omega)) hH kX7_goesWell qw_768 (ws_p (List.mem_of_getElem? (i := 19) rfl) rfl) qw_766  rfl [] rfl hl.1 (Nat.le_of_ble_eq_true rfl) ⟨Nat.le_of_ble_eq_true rfl, Nat.le_of_ble_eq_true rfl⟩ dX7_budget_31 ⟨Nat.le_of_ble_eq_true rfl, Nat.le_of_ble_eq_true rfl⟩ (fun r_8 H locs hp_7 hS => ?_)
      obtain ⟨rfl, hH⟩ := hp_7
      have hMM1 := hMM0.goes (nI 2)
      have hMMx := hMM1
      obtain ⟨hM, mm3, mm4, mm6, mm7, mm8, mm9, mm11, mm12, mm13, mm14, mm15, mm16, mm17, mm18⟩ := hMMx
      refine lv_re (y := nI 0) rfl ?_
      refine lv_if_ne (tgt := 39) hx hb dX7_budget_34 (by decide) (fun c_9 => absurd (by decide +kernel) c_9) (fun c_9 => ?_)
      clear c_9
      refine lv_iconst (v := nI 0) hx hb dX7_budget_37 (by decide +kernel) ?_
      rw [← hQ]
      refine x_reti C rfl hS (Nat.le_of_ble_eq_true rfl) (Nat.le_of_ble_eq_true rfl) dX7_budget_38 ?_
      rw [hpost]
      exact ⟨⟨_, rfl⟩, Or.inr (Or.inl ⟨((inRb_iff (by omega)).mp c_3), inB_f c_6, PM_th hH hMM0⟩)⟩
    · skip
      replace c_6 := ob_n.mp c_6
      refine lv_iconst (v := nI 0) hx hb dX7_budget_26 (by decide +kernel) ?_
      refine lv_goto (tgt := 31) hx hb dX7_budget_27 (by decide) ?_
      refine x_callV C hH hS (ci := 8) (t := (10, 0, 0)) hM rfl rfl (m_goes l (E := E) (base := base) hMM0 (k := 0) (by omega)) hH kX7_goesWell qw_768 (ws_p (List.mem_of_getElem? (i := 19) rfl) rfl) qw_766  rfl [] rfl hl.1 (Nat.le_of_ble_eq_true rfl) ⟨Nat.le_of_ble_eq_true rfl, Nat.le_of_ble_eq_true rfl⟩ dX7_budget_31 ⟨Nat.le_of_ble_eq_true rfl, Nat.le_of_ble_eq_true rfl⟩ (fun r_11 H locs hp_10 hS => ?_)
      obtain ⟨rfl, hH⟩ := hp_10
      have hMM1 := hMM0.goes (nI 0)
      have hMMx := hMM1
      obtain ⟨hM, mm3, mm4, mm6, mm7, mm8, mm9, mm11, mm12, mm13, mm14, mm15, mm16, mm17, mm18⟩ := hMMx
      refine lv_re (y := nI 1) rfl ?_
      obtain ⟨p, hp9, rfl⟩ := (inRb_iff (by omega)).mp c_3
      refine lv_if_ne (tgt := 39) hx hb dX7_budget_34 (by decide) (fun c_12 => ?_) (fun c_12 => absurd c_12 (by decide +kernel))
      clear c_12
      refine lv_aload_n hx hb dX7_budget_39 rfl (lv_at hl 1 rfl) ?_
      refine x_get C hH (ci := 8) (T := TX7) (N := 19) hM rfl iWX7 6 (by decide) qw_702 rfl rfl dX7_budget_40 ?_
      refine lv_iload_n hx hb dX7_budget_43 rfl (lv_at hl 2 rfl) ?_
      refine x_iald C hH mm6 (j := p) rfl (by omega) (by omega) dX7_budget_44 ?_
      refine lv_istore (lv' := [(4, .int (sg 3 p 0)), (3, .int (ob (inRb (nI p) np))), (0, .ref (al (10, 0, 0))), (1, .int (nI p)), (2, .int y)]) hx hb dX7_budget_45 hl (by decide) rfl (fun ls hl => ?_)
      refine lv_aload_n hx hb dX7_budget_47 rfl (lv_at hl 2 rfl) ?_
      refine x_get C hH (ci := 8) (T := TX7) (N := 19) hM rfl iWX7 6 (by decide) qw_702 rfl rfl dX7_budget_48 ?_
      refine lv_iload_n hx hb dX7_budget_51 rfl (lv_at hl 3 rfl) ?_
      refine lv_iload_n hx hb dX7_budget_52 rfl (lv_at hl 4 rfl) ?_
      refine x_iast C hH hS mm6 (j := p) rfl (by omega) (by omega) dX7_budget_53 (fun H locs hH hS => ?_)
      have hM := xu_of (t := (10, 6, 0)) (e := .inl (E.2.1 0, 6, .inl (upd (fun i => sg 3 i 0) p y))) (by simp) hM
      have mm3 := xu_of (t := (10, 6, 0)) (e := .inl (E.2.1 0, 6, .inl (upd (fun i => sg 3 i 0) p y))) (by simp) mm3
      have mm4 := xu_of (t := (10, 6, 0)) (e := .inl (E.2.1 0, 6, .inl (upd (fun i => sg 3 i 0) p y))) (by simp) mm4
      have mm7 := xu_of (t := (10, 6, 0)) (e := .inl (E.2.1 0, 6, .inl (upd (fun i => sg 3 i 0) p y))) (by simp) mm7
      have mm8 := xu_of (t := (10, 6, 0)) (e := .inl (E.2.1 0, 6, .inl (upd (fun i => sg 3 i 0) p y))) (by simp) mm8
      have mm9 := xu_of (t := (10, 6, 0)) (e := .inl (E.2.1 0, 6, .inl (upd (fun i => sg 3 i 0) p y))) (by simp) mm9
      have mm11 := xu_of (t := (10, 6, 0)) (e := .inl (E.2.1 0, 6, .inl (upd (fun i => sg 3 i 0) p y))) (by simp) mm11
      have mm12 := xu_of (t := (10, 6, 0)) (e := .inl (E.2.1 0, 6, .inl (upd (fun i => sg 3 i 0) p y))) (by simp) mm12
      have mm13 := xu_of (t := (10, 6, 0)) (e := .inl (E.2.1 0, 6, .inl (upd (fun i => sg 3 i 0) p y))) (by simp) mm13
      have mm14 := xu_of (t := (10, 6, 0)) (e := .inl (E.2.1 0, 6, .inl (upd (fun i => sg 3 i 0) p y))) (by simp) mm14
      have mm15 := xu_of (t := (10, 6, 0)) (e := .inl (E.2.1 0, 6, .inl (upd (fun i => sg 3 i 0) p y))) (by simp) mm15
      have mm16 := xu_of (t := (10, 6, 0)) (e := .inl (E.2.1 0, 6, .inl (upd (fun i => sg 3 i 0) p y))) (by simp) mm16
      have mm17 := xu_of (t := (10, 6, 0)) (e := .inl (E.2.1 0, 6, .inl (upd (fun i => sg 3 i 0) p y))) (by simp) mm17
      have mm18 := xu_of (t := (10, 6, 0)) (e := .inl (E.2.1 0, 6, .inl (upd (fun i => sg 3 i 0) p y))) (by simp) mm18
      have mm6 : (xu (xu w (10, 0, 0) (.inr (8, [.int (nI 0), .int (nI nw), .int (nI nf), .ref (al (10, 3, 0)), .ref (al (10, 4, 0)), .int (nI np), .ref (al (10, 6, 0)), .ref (al (10, 7, 0)), .ref (al (10, 8, 0)), .ref (al (10, 9, 0)), .int (nI na), .ref (al (10, 11, 0)), .ref (al (10, 12, 0)), .ref (al (10, 13, 0)), .ref (al (10, 14, 0)), .ref (al (10, 15, 0)), .ref (al (10, 16, 0)), .ref (al (10, 17, 0)), .ref (al (10, 18, 0))]))) (10, 6, 0) (.inl (E.2.1 0, 6, .inl (upd (fun i => sg 3 i 0) p y)))) (10, 6, 0) = some (.inl (E.2.1 0, 6, .inl (upd (fun i => sg 3 i 0) p y))) := xu_self _ _ _
      refine lv_iload hx hb dX7_budget_54 (lv_at hl 0 rfl) ?_
      rw [← hQ]
      refine x_reti C rfl hS (Nat.le_of_ble_eq_true rfl) (Nat.le_of_ble_eq_true rfl) dX7_budget_56 ?_
      rw [hpost]
      exact ⟨⟨_, rfl⟩, Or.inr (Or.inr ⟨p, hp9, rfl, inB_t c_6, rfl, PM_of hH (hMM1.s3) (fun t ht => by rw [xu_ne (fun e => ht (by rw [e])), xu_ne (fun e => ht (by rw [e]))])⟩)⟩
  · skip
    replace c_3 := ob_0.mp c_3
    refine lv_iconst (v := nI 1) hx hb dX7_budget_11 (by decide +kernel) ?_
    refine lv_goto (tgt := 31) hx hb dX7_budget_12 (by decide) ?_
    refine x_callV C hH hS (ci := 8) (t := (10, 0, 0)) hM rfl rfl (m_goes l (E := E) (base := base) hMM0 (k := 1) (by omega)) hH kX7_goesWell qw_768 (ws_p (List.mem_of_getElem? (i := 19) rfl) rfl) qw_766  rfl [] rfl hl.1 (Nat.le_of_ble_eq_true rfl) ⟨Nat.le_of_ble_eq_true rfl, Nat.le_of_ble_eq_true rfl⟩ dX7_budget_31 ⟨Nat.le_of_ble_eq_true rfl, Nat.le_of_ble_eq_true rfl⟩ (fun r_14 H locs hp_13 hS => ?_)
    obtain ⟨rfl, hH⟩ := hp_13
    have hMM1 := hMM0.goes (nI 1)
    have hMMx := hMM1
    obtain ⟨hM, mm3, mm4, mm6, mm7, mm8, mm9, mm11, mm12, mm13, mm14, mm15, mm16, mm17, mm18⟩ := hMMx
    refine lv_re (y := nI 0) rfl ?_
    refine lv_if_ne (tgt := 39) hx hb dX7_budget_34 (by decide) (fun c_15 => absurd (by decide +kernel) c_15) (fun c_15 => ?_)
    clear c_15
    refine lv_iconst (v := nI 0) hx hb dX7_budget_37 (by decide +kernel) ?_
    rw [← hQ]
    refine x_reti C rfl hS (Nat.le_of_ble_eq_true rfl) (Nat.le_of_ble_eq_true rfl) dX7_budget_38 ?_
    rw [hpost]
    exact ⟨⟨_, rfl⟩, Or.inl ⟨(fun q => by rw [(inRb_iff (by omega)).mpr q] at c_3; cases c_3), PM_th hH hMM0⟩⟩

set_option maxHeartbeats 4000000 in
set_option maxRecDepth 100000 in
theorem m_file (l : Launch) {E : xE} {base : Nat} {al : Tg → Nat} {w : Tg → Option va_E} {th : Int32} {nf np na nw : Nat} {sg : Nat → Nat → Nat → Int32} {rc : Nat → Bool} {fr : Nat → Int32} (hMM : MMf E al w th nf np na nw sg rc fr) (hI : INV nf np na nw sg rc) {x : Int32} : xMet l yX7_file cX7_file 3 (some (.int)) ({ frames := 1, cells := 0, slots := 0, locals := 22 } : Room) E base [.ref (al (10, 0, 0)), .int x] (fun H => xH E base al w H) (fun r H => (∃ v9, r = some (.int v9)) ∧ ((¬ (nI 0 ≤ x ∧ x ≤ nI 255) ∧ PM E base al w (nI 1) nf np na nw sg rc H) ∨ ((nI 0 ≤ x ∧ x ≤ nI 255) ∧ ¬ nf < 16 ∧ PM E base al w (nI 2) nf np na nw sg rc H) ∨ ((nI 0 ≤ x ∧ x ≤ nI 255) ∧ nf < 16 ∧ r = some (.int (nI nf)) ∧ PM E base al w (nI 0) (nf + 1) np na nw (u3 sg 1 nf 0 x) rc H))) := by
  refine xMet.of (by decide +kernel) "DataroomModel" rfl (Nat.le_of_ble_eq_true rfl) ?_
  intro p9 e9 s m9 below meth c9 ls C hin hP hS hl
  have hx := C.hx
  have hb := C.hb
  have hH := hP
  have hl : lv_has ls 3 [(0, .ref (al (10, 0, 0))), (1, .int x)] := hl
  obtain ⟨post, hpost⟩ : ∃ zz9 : Option Value → Heap → Prop, zz9 = (fun r H => (∃ v9, r = some (.int v9)) ∧ ((¬ (nI 0 ≤ x ∧ x ≤ nI 255) ∧ PM E base al w (nI 1) nf np na nw sg rc H) ∨ ((nI 0 ≤ x ∧ x ≤ nI 255) ∧ ¬ nf < 16 ∧ PM E base al w (nI 2) nf np na nw sg rc H) ∨ ((nI 0 ≤ x ∧ x ≤ nI 255) ∧ nf < 16 ∧ r = some (.int (nI nf)) ∧ PM E base al w (nI 0) (nf + 1) np na nw (u3 sg 1 nf 0 x) rc H))) := ⟨_, rfl⟩
  rw [← hpost]
  generalize hQ : (MQ below (xQ base post) ([.ref (al (10, 0, 0)), .int x] : List Value).toArray s 0 0 (xA base)) = Q
  have hMM0 := hMM
  obtain ⟨hM, mm3, mm4, mm6, mm7, mm8, mm9, mm11, mm12, mm13, mm14, mm15, mm16, mm17, mm18⟩ := hMM
  have hI0 := hI
  obtain ⟨v16, v6, v150, vnow, vA, vS, vP, vK, vR⟩ := hI
  refine lv_iload_n hx hb dX7_file_0 rfl (lv_at hl 1 rfl) ?_
  refine lv_iconst (v := nI 0) hx hb dX7_file_1 (by decide +kernel) ?_
  refine lv_sipush (v := nI 255) hx hb dX7_file_2 (by decide +kernel) ?_
  refine x_callS C hS (m_in l (E := E) (base := base) (al := al) (w := w) (v := x) (a := nI 0) (b := nI 255)) hH kX7_in qw_764 qw_763  rfl [] rfl hl.1 (Nat.le_of_ble_eq_true rfl) ⟨Nat.le_of_ble_eq_true rfl, Nat.le_of_ble_eq_true rfl⟩ dX7_file_5 ⟨Nat.le_of_ble_eq_true rfl, Nat.le_of_ble_eq_true rfl⟩ (fun r_2 H locs hp_1 hS => ?_)
  obtain ⟨rfl, hH⟩ := hp_1
  refine lv_istore_n (lv' := [(2, .int (ob (inB x (nI 0) (nI 255)))), (0, .ref (al (10, 0, 0))), (1, .int x)]) hx hb dX7_file_8 rfl hl (by decide) rfl (fun ls hl => ?_)
  refine lv_aload_n hx hb dX7_file_9 rfl (lv_at hl 1 rfl) ?_
  refine lv_iload_n hx hb dX7_file_10 rfl (lv_at hl 0 rfl) ?_
  refine lv_if_ne (tgt := 18) hx hb dX7_file_11 (by decide) (fun c_3 => ?_) (fun c_3 => ?_)
  · skip
    replace c_3 := ob_n.mp c_3
    refine lv_aload_n hx hb dX7_file_18 rfl (lv_at hl 1 rfl) ?_
    refine x_get C hH (ci := 8) (T := TX7) (N := 19) hM rfl iWX7 2 (by decide) qw_698 rfl rfl dX7_file_19 ?_
    refine lv_bipush (v := nI 16) hx hb dX7_file_22 (by decide +kernel) ?_
    refine lv_icmp_ne (tgt := 31) hx hb dX7_file_24 (by decide) (fun c_4 => ?_) (fun c_4 => ?_)
    · skip
      replace c_4 := mt (nI_eq (by omega) (by omega)).mpr c_4
      refine lv_iconst (v := nI 0) hx hb dX7_file_31 (by decide +kernel) ?_
      refine x_callV C hH hS (ci := 8) (t := (10, 0, 0)) hM rfl rfl (m_goes l (E := E) (base := base) hMM0 (k := 0) (by omega)) hH kX7_goesWell qw_768 (ws_p (List.mem_of_getElem? (i := 19) rfl) rfl) qw_766  rfl [] rfl hl.1 (Nat.le_of_ble_eq_true rfl) ⟨Nat.le_of_ble_eq_true rfl, Nat.le_of_ble_eq_true rfl⟩ dX7_file_32 ⟨Nat.le_of_ble_eq_true rfl, Nat.le_of_ble_eq_true rfl⟩ (fun r_6 H locs hp_5 hS => ?_)
      obtain ⟨rfl, hH⟩ := hp_5
      have hMM1 := hMM0.goes (nI 0)
      have hMMx := hMM1
      obtain ⟨hM, mm3, mm4, mm6, mm7, mm8, mm9, mm11, mm12, mm13, mm14, mm15, mm16, mm17, mm18⟩ := hMMx
      refine lv_re (y := nI 1) rfl ?_
      have hl9 : nf < 16 := by omega
      refine lv_if_ne (tgt := 40) hx hb dX7_file_35 (by decide) (fun c_7 => ?_) (fun c_7 => absurd c_7 (by decide +kernel))
      clear c_7
      refine lv_aload_n hx hb dX7_file_40 rfl (lv_at hl 1 rfl) ?_
      refine x_get C hH (ci := 8) (T := TX7) (N := 19) hM rfl iWX7 3 (by decide) qw_699 rfl rfl dX7_file_41 ?_
      refine lv_aload_n hx hb dX7_file_44 rfl (lv_at hl 1 rfl) ?_
      refine x_get C hH (ci := 8) (T := TX7) (N := 19) hM rfl iWX7 2 (by decide) qw_698 rfl rfl dX7_file_45 ?_
      refine lv_iload_n hx hb dX7_file_48 rfl (lv_at hl 2 rfl) ?_
      refine x_iast C hH hS mm3 (j := nf) rfl (by omega) (by omega) dX7_file_49 (fun H locs hH hS => ?_)
      have hM := xu_of (t := (10, 3, 0)) (e := .inl (E.2.1 0, 16, .inl (upd (fun i => sg 1 i 0) nf x))) (by simp) hM
      have mm4 := xu_of (t := (10, 3, 0)) (e := .inl (E.2.1 0, 16, .inl (upd (fun i => sg 1 i 0) nf x))) (by simp) mm4
      have mm6 := xu_of (t := (10, 3, 0)) (e := .inl (E.2.1 0, 16, .inl (upd (fun i => sg 1 i 0) nf x))) (by simp) mm6
      have mm7 := xu_of (t := (10, 3, 0)) (e := .inl (E.2.1 0, 16, .inl (upd (fun i => sg 1 i 0) nf x))) (by simp) mm7
      have mm8 := xu_of (t := (10, 3, 0)) (e := .inl (E.2.1 0, 16, .inl (upd (fun i => sg 1 i 0) nf x))) (by simp) mm8
      have mm9 := xu_of (t := (10, 3, 0)) (e := .inl (E.2.1 0, 16, .inl (upd (fun i => sg 1 i 0) nf x))) (by simp) mm9
      have mm11 := xu_of (t := (10, 3, 0)) (e := .inl (E.2.1 0, 16, .inl (upd (fun i => sg 1 i 0) nf x))) (by simp) mm11
      have mm12 := xu_of (t := (10, 3, 0)) (e := .inl (E.2.1 0, 16, .inl (upd (fun i => sg 1 i 0) nf x))) (by simp) mm12
      have mm13 := xu_of (t := (10, 3, 0)) (e := .inl (E.2.1 0, 16, .inl (upd (fun i => sg 1 i 0) nf x))) (by simp) mm13
      have mm14 := xu_of (t := (10, 3, 0)) (e := .inl (E.2.1 0, 16, .inl (upd (fun i => sg 1 i 0) nf x))) (by simp) mm14
      have mm15 := xu_of (t := (10, 3, 0)) (e := .inl (E.2.1 0, 16, .inl (upd (fun i => sg 1 i 0) nf x))) (by simp) mm15
      have mm16 := xu_of (t := (10, 3, 0)) (e := .inl (E.2.1 0, 16, .inl (upd (fun i => sg 1 i 0) nf x))) (by simp) mm16
      have mm17 := xu_of (t := (10, 3, 0)) (e := .inl (E.2.1 0, 16, .inl (upd (fun i => sg 1 i 0) nf x))) (by simp) mm17
      have mm18 := xu_of (t := (10, 3, 0)) (e := .inl (E.2.1 0, 16, .inl (upd (fun i => sg 1 i 0) nf x))) (by simp) mm18
      have mm3 : (xu (xu w (10, 0, 0) (.inr (8, [.int (nI 0), .int (nI nw), .int (nI nf), .ref (al (10, 3, 0)), .ref (al (10, 4, 0)), .int (nI np), .ref (al (10, 6, 0)), .ref (al (10, 7, 0)), .ref (al (10, 8, 0)), .ref (al (10, 9, 0)), .int (nI na), .ref (al (10, 11, 0)), .ref (al (10, 12, 0)), .ref (al (10, 13, 0)), .ref (al (10, 14, 0)), .ref (al (10, 15, 0)), .ref (al (10, 16, 0)), .ref (al (10, 17, 0)), .ref (al (10, 18, 0))]))) (10, 3, 0) (.inl (E.2.1 0, 16, .inl (upd (fun i => sg 1 i 0) nf x)))) (10, 3, 0) = some (.inl (E.2.1 0, 16, .inl (upd (fun i => sg 1 i 0) nf x))) := xu_self _ _ _
      refine lv_aload_n hx hb dX7_file_50 rfl (lv_at hl 1 rfl) ?_
      refine lv_dup hx hb dX7_file_51 rfl ?_
      refine x_get C hH (ci := 8) (T := TX7) (N := 19) hM rfl iWX7 2 (by decide) qw_698 rfl rfl dX7_file_52 ?_
      refine lv_iconst (v := nI 1) hx hb dX7_file_55 (by decide +kernel) ?_
      refine lv_iadd hx hb dX7_file_56 ?_
      refine lv_re (nI_add _ _) ?_
      refine x_put C hH hS (ci := 8) (T := TX7) (N := 19) (fs' := [.int (nI 0), .int (nI nw), .int (nI (nf + 1)), .ref (al (10, 3, 0)), .ref (al (10, 4, 0)), .int (nI np), .ref (al (10, 6, 0)), .ref (al (10, 7, 0)), .ref (al (10, 8, 0)), .ref (al (10, 9, 0)), .int (nI na), .ref (al (10, 11, 0)), .ref (al (10, 12, 0)), .ref (al (10, 13, 0)), .ref (al (10, 14, 0)), .ref (al (10, 15, 0)), .ref (al (10, 16, 0)), .ref (al (10, 17, 0)), .ref (al (10, 18, 0))]) hM rfl iWX7 tyX7 tyX7_ok nmX7 2 (by decide) qw_698 rfl rfl rfl rfl (Nat.le_of_ble_eq_true rfl) rfl dX7_file_57 (fun H locs hH hS => ?_)
      have mm3 := xu_of (t := (10, 0, 0)) (e := .inr (8, [.int (nI 0), .int (nI nw), .int (nI (nf + 1)), .ref (al (10, 3, 0)), .ref (al (10, 4, 0)), .int (nI np), .ref (al (10, 6, 0)), .ref (al (10, 7, 0)), .ref (al (10, 8, 0)), .ref (al (10, 9, 0)), .int (nI na), .ref (al (10, 11, 0)), .ref (al (10, 12, 0)), .ref (al (10, 13, 0)), .ref (al (10, 14, 0)), .ref (al (10, 15, 0)), .ref (al (10, 16, 0)), .ref (al (10, 17, 0)), .ref (al (10, 18, 0))])) (by simp) mm3
      have mm4 := xu_of (t := (10, 0, 0)) (e := .inr (8, [.int (nI 0), .int (nI nw), .int (nI (nf + 1)), .ref (al (10, 3, 0)), .ref (al (10, 4, 0)), .int (nI np), .ref (al (10, 6, 0)), .ref (al (10, 7, 0)), .ref (al (10, 8, 0)), .ref (al (10, 9, 0)), .int (nI na), .ref (al (10, 11, 0)), .ref (al (10, 12, 0)), .ref (al (10, 13, 0)), .ref (al (10, 14, 0)), .ref (al (10, 15, 0)), .ref (al (10, 16, 0)), .ref (al (10, 17, 0)), .ref (al (10, 18, 0))])) (by simp) mm4
      have mm6 := xu_of (t := (10, 0, 0)) (e := .inr (8, [.int (nI 0), .int (nI nw), .int (nI (nf + 1)), .ref (al (10, 3, 0)), .ref (al (10, 4, 0)), .int (nI np), .ref (al (10, 6, 0)), .ref (al (10, 7, 0)), .ref (al (10, 8, 0)), .ref (al (10, 9, 0)), .int (nI na), .ref (al (10, 11, 0)), .ref (al (10, 12, 0)), .ref (al (10, 13, 0)), .ref (al (10, 14, 0)), .ref (al (10, 15, 0)), .ref (al (10, 16, 0)), .ref (al (10, 17, 0)), .ref (al (10, 18, 0))])) (by simp) mm6
      have mm7 := xu_of (t := (10, 0, 0)) (e := .inr (8, [.int (nI 0), .int (nI nw), .int (nI (nf + 1)), .ref (al (10, 3, 0)), .ref (al (10, 4, 0)), .int (nI np), .ref (al (10, 6, 0)), .ref (al (10, 7, 0)), .ref (al (10, 8, 0)), .ref (al (10, 9, 0)), .int (nI na), .ref (al (10, 11, 0)), .ref (al (10, 12, 0)), .ref (al (10, 13, 0)), .ref (al (10, 14, 0)), .ref (al (10, 15, 0)), .ref (al (10, 16, 0)), .ref (al (10, 17, 0)), .ref (al (10, 18, 0))])) (by simp) mm7
      have mm8 := xu_of (t := (10, 0, 0)) (e := .inr (8, [.int (nI 0), .int (nI nw), .int (nI (nf + 1)), .ref (al (10, 3, 0)), .ref (al (10, 4, 0)), .int (nI np), .ref (al (10, 6, 0)), .ref (al (10, 7, 0)), .ref (al (10, 8, 0)), .ref (al (10, 9, 0)), .int (nI na), .ref (al (10, 11, 0)), .ref (al (10, 12, 0)), .ref (al (10, 13, 0)), .ref (al (10, 14, 0)), .ref (al (10, 15, 0)), .ref (al (10, 16, 0)), .ref (al (10, 17, 0)), .ref (al (10, 18, 0))])) (by simp) mm8
      have mm9 := xu_of (t := (10, 0, 0)) (e := .inr (8, [.int (nI 0), .int (nI nw), .int (nI (nf + 1)), .ref (al (10, 3, 0)), .ref (al (10, 4, 0)), .int (nI np), .ref (al (10, 6, 0)), .ref (al (10, 7, 0)), .ref (al (10, 8, 0)), .ref (al (10, 9, 0)), .int (nI na), .ref (al (10, 11, 0)), .ref (al (10, 12, 0)), .ref (al (10, 13, 0)), .ref (al (10, 14, 0)), .ref (al (10, 15, 0)), .ref (al (10, 16, 0)), .ref (al (10, 17, 0)), .ref (al (10, 18, 0))])) (by simp) mm9
      have mm11 := xu_of (t := (10, 0, 0)) (e := .inr (8, [.int (nI 0), .int (nI nw), .int (nI (nf + 1)), .ref (al (10, 3, 0)), .ref (al (10, 4, 0)), .int (nI np), .ref (al (10, 6, 0)), .ref (al (10, 7, 0)), .ref (al (10, 8, 0)), .ref (al (10, 9, 0)), .int (nI na), .ref (al (10, 11, 0)), .ref (al (10, 12, 0)), .ref (al (10, 13, 0)), .ref (al (10, 14, 0)), .ref (al (10, 15, 0)), .ref (al (10, 16, 0)), .ref (al (10, 17, 0)), .ref (al (10, 18, 0))])) (by simp) mm11
      have mm12 := xu_of (t := (10, 0, 0)) (e := .inr (8, [.int (nI 0), .int (nI nw), .int (nI (nf + 1)), .ref (al (10, 3, 0)), .ref (al (10, 4, 0)), .int (nI np), .ref (al (10, 6, 0)), .ref (al (10, 7, 0)), .ref (al (10, 8, 0)), .ref (al (10, 9, 0)), .int (nI na), .ref (al (10, 11, 0)), .ref (al (10, 12, 0)), .ref (al (10, 13, 0)), .ref (al (10, 14, 0)), .ref (al (10, 15, 0)), .ref (al (10, 16, 0)), .ref (al (10, 17, 0)), .ref (al (10, 18, 0))])) (by simp) mm12
      have mm13 := xu_of (t := (10, 0, 0)) (e := .inr (8, [.int (nI 0), .int (nI nw), .int (nI (nf + 1)), .ref (al (10, 3, 0)), .ref (al (10, 4, 0)), .int (nI np), .ref (al (10, 6, 0)), .ref (al (10, 7, 0)), .ref (al (10, 8, 0)), .ref (al (10, 9, 0)), .int (nI na), .ref (al (10, 11, 0)), .ref (al (10, 12, 0)), .ref (al (10, 13, 0)), .ref (al (10, 14, 0)), .ref (al (10, 15, 0)), .ref (al (10, 16, 0)), .ref (al (10, 17, 0)), .ref (al (10, 18, 0))])) (by simp) mm13
      have mm14 := xu_of (t := (10, 0, 0)) (e := .inr (8, [.int (nI 0), .int (nI nw), .int (nI (nf + 1)), .ref (al (10, 3, 0)), .ref (al (10, 4, 0)), .int (nI np), .ref (al (10, 6, 0)), .ref (al (10, 7, 0)), .ref (al (10, 8, 0)), .ref (al (10, 9, 0)), .int (nI na), .ref (al (10, 11, 0)), .ref (al (10, 12, 0)), .ref (al (10, 13, 0)), .ref (al (10, 14, 0)), .ref (al (10, 15, 0)), .ref (al (10, 16, 0)), .ref (al (10, 17, 0)), .ref (al (10, 18, 0))])) (by simp) mm14
      have mm15 := xu_of (t := (10, 0, 0)) (e := .inr (8, [.int (nI 0), .int (nI nw), .int (nI (nf + 1)), .ref (al (10, 3, 0)), .ref (al (10, 4, 0)), .int (nI np), .ref (al (10, 6, 0)), .ref (al (10, 7, 0)), .ref (al (10, 8, 0)), .ref (al (10, 9, 0)), .int (nI na), .ref (al (10, 11, 0)), .ref (al (10, 12, 0)), .ref (al (10, 13, 0)), .ref (al (10, 14, 0)), .ref (al (10, 15, 0)), .ref (al (10, 16, 0)), .ref (al (10, 17, 0)), .ref (al (10, 18, 0))])) (by simp) mm15
      have mm16 := xu_of (t := (10, 0, 0)) (e := .inr (8, [.int (nI 0), .int (nI nw), .int (nI (nf + 1)), .ref (al (10, 3, 0)), .ref (al (10, 4, 0)), .int (nI np), .ref (al (10, 6, 0)), .ref (al (10, 7, 0)), .ref (al (10, 8, 0)), .ref (al (10, 9, 0)), .int (nI na), .ref (al (10, 11, 0)), .ref (al (10, 12, 0)), .ref (al (10, 13, 0)), .ref (al (10, 14, 0)), .ref (al (10, 15, 0)), .ref (al (10, 16, 0)), .ref (al (10, 17, 0)), .ref (al (10, 18, 0))])) (by simp) mm16
      have mm17 := xu_of (t := (10, 0, 0)) (e := .inr (8, [.int (nI 0), .int (nI nw), .int (nI (nf + 1)), .ref (al (10, 3, 0)), .ref (al (10, 4, 0)), .int (nI np), .ref (al (10, 6, 0)), .ref (al (10, 7, 0)), .ref (al (10, 8, 0)), .ref (al (10, 9, 0)), .int (nI na), .ref (al (10, 11, 0)), .ref (al (10, 12, 0)), .ref (al (10, 13, 0)), .ref (al (10, 14, 0)), .ref (al (10, 15, 0)), .ref (al (10, 16, 0)), .ref (al (10, 17, 0)), .ref (al (10, 18, 0))])) (by simp) mm17
      have mm18 := xu_of (t := (10, 0, 0)) (e := .inr (8, [.int (nI 0), .int (nI nw), .int (nI (nf + 1)), .ref (al (10, 3, 0)), .ref (al (10, 4, 0)), .int (nI np), .ref (al (10, 6, 0)), .ref (al (10, 7, 0)), .ref (al (10, 8, 0)), .ref (al (10, 9, 0)), .int (nI na), .ref (al (10, 11, 0)), .ref (al (10, 12, 0)), .ref (al (10, 13, 0)), .ref (al (10, 14, 0)), .ref (al (10, 15, 0)), .ref (al (10, 16, 0)), .ref (al (10, 17, 0)), .ref (al (10, 18, 0))])) (by simp) mm18
      have hM : (xu (xu (xu w (10, 0, 0) (.inr (8, [.int (nI 0), .int (nI nw), .int (nI nf), .ref (al (10, 3, 0)), .ref (al (10, 4, 0)), .int (nI np), .ref (al (10, 6, 0)), .ref (al (10, 7, 0)), .ref (al (10, 8, 0)), .ref (al (10, 9, 0)), .int (nI na), .ref (al (10, 11, 0)), .ref (al (10, 12, 0)), .ref (al (10, 13, 0)), .ref (al (10, 14, 0)), .ref (al (10, 15, 0)), .ref (al (10, 16, 0)), .ref (al (10, 17, 0)), .ref (al (10, 18, 0))]))) (10, 3, 0) (.inl (E.2.1 0, 16, .inl (upd (fun i => sg 1 i 0) nf x)))) (10, 0, 0) (.inr (8, [.int (nI 0), .int (nI nw), .int (nI (nf + 1)), .ref (al (10, 3, 0)), .ref (al (10, 4, 0)), .int (nI np), .ref (al (10, 6, 0)), .ref (al (10, 7, 0)), .ref (al (10, 8, 0)), .ref (al (10, 9, 0)), .int (nI na), .ref (al (10, 11, 0)), .ref (al (10, 12, 0)), .ref (al (10, 13, 0)), .ref (al (10, 14, 0)), .ref (al (10, 15, 0)), .ref (al (10, 16, 0)), .ref (al (10, 17, 0)), .ref (al (10, 18, 0))]))) (10, 0, 0) = some (.inr (8, [.int (nI 0), .int (nI nw), .int (nI (nf + 1)), .ref (al (10, 3, 0)), .ref (al (10, 4, 0)), .int (nI np), .ref (al (10, 6, 0)), .ref (al (10, 7, 0)), .ref (al (10, 8, 0)), .ref (al (10, 9, 0)), .int (nI na), .ref (al (10, 11, 0)), .ref (al (10, 12, 0)), .ref (al (10, 13, 0)), .ref (al (10, 14, 0)), .ref (al (10, 15, 0)), .ref (al (10, 16, 0)), .ref (al (10, 17, 0)), .ref (al (10, 18, 0))])) := xu_self _ _ _
      refine lv_aload_n hx hb dX7_file_60 rfl (lv_at hl 1 rfl) ?_
      refine x_get C hH (ci := 8) (T := TX7) (N := 19) hM rfl iWX7 2 (by decide) qw_698 rfl rfl dX7_file_61 ?_
      refine lv_iconst (v := nI 1) hx hb dX7_file_64 (by decide +kernel) ?_
      refine lv_isub hx hb dX7_file_65 ?_
      refine lv_re (dI_sub _) ?_
      rw [← hQ]
      refine x_reti C rfl hS (Nat.le_of_ble_eq_true rfl) (Nat.le_of_ble_eq_true rfl) dX7_file_66 ?_
      rw [hpost]
      exact ⟨⟨_, rfl⟩, Or.inr (Or.inr ⟨inB_t c_3, by omega, by rw [dI_s], PM_of hH (MMf.addF hMM1) (fun t ht => by rw [xu_ne (fun e => ht (by rw [e])), xu_ne (fun e => ht (by rw [e])), xu_ne (fun e => ht (by rw [e]))])⟩)⟩
    · skip
      replace c_4 := (nI_eq (by omega) (by omega)).mp c_4
      refine lv_iconst (v := nI 2) hx hb dX7_file_27 (by decide +kernel) ?_
      refine lv_goto (tgt := 32) hx hb dX7_file_28 (by decide) ?_
      refine x_callV C hH hS (ci := 8) (t := (10, 0, 0)) hM rfl rfl (m_goes l (E := E) (base := base) hMM0 (k := 2) (by omega)) hH kX7_goesWell qw_768 (ws_p (List.mem_of_getElem? (i := 19) rfl) rfl) qw_766  rfl [] rfl hl.1 (Nat.le_of_ble_eq_true rfl) ⟨Nat.le_of_ble_eq_true rfl, Nat.le_of_ble_eq_true rfl⟩ dX7_file_32 ⟨Nat.le_of_ble_eq_true rfl, Nat.le_of_ble_eq_true rfl⟩ (fun r_9 H locs hp_8 hS => ?_)
      obtain ⟨rfl, hH⟩ := hp_8
      have hMM1 := hMM0.goes (nI 2)
      have hMMx := hMM1
      obtain ⟨hM, mm3, mm4, mm6, mm7, mm8, mm9, mm11, mm12, mm13, mm14, mm15, mm16, mm17, mm18⟩ := hMMx
      refine lv_re (y := nI 0) rfl ?_
      refine lv_if_ne (tgt := 40) hx hb dX7_file_35 (by decide) (fun c_10 => absurd (by decide +kernel) c_10) (fun c_10 => ?_)
      clear c_10
      refine lv_iconst (v := nI 0) hx hb dX7_file_38 (by decide +kernel) ?_
      rw [← hQ]
      refine x_reti C rfl hS (Nat.le_of_ble_eq_true rfl) (Nat.le_of_ble_eq_true rfl) dX7_file_39 ?_
      rw [hpost]
      exact ⟨⟨_, rfl⟩, Or.inr (Or.inl ⟨inB_t c_3, by omega, PM_th hH hMM0⟩)⟩
  · skip
    replace c_3 := ob_0.mp c_3
    refine lv_iconst (v := nI 1) hx hb dX7_file_14 (by decide +kernel) ?_
    refine lv_goto (tgt := 32) hx hb dX7_file_15 (by decide) ?_
    refine x_callV C hH hS (ci := 8) (t := (10, 0, 0)) hM rfl rfl (m_goes l (E := E) (base := base) hMM0 (k := 1) (by omega)) hH kX7_goesWell qw_768 (ws_p (List.mem_of_getElem? (i := 19) rfl) rfl) qw_766  rfl [] rfl hl.1 (Nat.le_of_ble_eq_true rfl) ⟨Nat.le_of_ble_eq_true rfl, Nat.le_of_ble_eq_true rfl⟩ dX7_file_32 ⟨Nat.le_of_ble_eq_true rfl, Nat.le_of_ble_eq_true rfl⟩ (fun r_12 H locs hp_11 hS => ?_)
    obtain ⟨rfl, hH⟩ := hp_11
    have hMM1 := hMM0.goes (nI 1)
    have hMMx := hMM1
    obtain ⟨hM, mm3, mm4, mm6, mm7, mm8, mm9, mm11, mm12, mm13, mm14, mm15, mm16, mm17, mm18⟩ := hMMx
    refine lv_re (y := nI 0) rfl ?_
    refine lv_if_ne (tgt := 40) hx hb dX7_file_35 (by decide) (fun c_13 => absurd (by decide +kernel) c_13) (fun c_13 => ?_)
    clear c_13
    refine lv_iconst (v := nI 0) hx hb dX7_file_38 (by decide +kernel) ?_
    rw [← hQ]
    refine x_reti C rfl hS (Nat.le_of_ble_eq_true rfl) (Nat.le_of_ble_eq_true rfl) dX7_file_39 ?_
    rw [hpost]
    exact ⟨⟨_, rfl⟩, Or.inl ⟨inB_f c_3, PM_th hH hMM0⟩⟩

set_option maxHeartbeats 4000000 in
set_option maxRecDepth 100000 in
theorem m_party (l : Launch) {E : xE} {base : Nat} {al : Tg → Nat} {w : Tg → Option va_E} {th : Int32} {nf np na nw : Nat} {sg : Nat → Nat → Nat → Int32} {rc : Nat → Bool} {fr : Nat → Int32} (hMM : MMf E al w th nf np na nw sg rc fr) (hI : INV nf np na nw sg rc) {x : Int32} : xMet l yX7_party cX7_party 3 (some (.int)) ({ frames := 1, cells := 0, slots := 0, locals := 22 } : Room) E base [.ref (al (10, 0, 0)), .int x] (fun H => xH E base al w H) (fun r H => (∃ v9, r = some (.int v9)) ∧ ((¬ (nI 0 ≤ x ∧ x ≤ nI 128) ∧ PM E base al w (nI 1) nf np na nw sg rc H) ∨ ((nI 0 ≤ x ∧ x ≤ nI 128) ∧ ¬ np < 6 ∧ PM E base al w (nI 2) nf np na nw sg rc H) ∨ ((nI 0 ≤ x ∧ x ≤ nI 128) ∧ np < 6 ∧ r = some (.int (nI np)) ∧ PM E base al w (nI 0) nf (np + 1) na nw (u3 sg 3 np 0 x) rc H))) := by
  refine xMet.of (by decide +kernel) "DataroomModel" rfl (Nat.le_of_ble_eq_true rfl) ?_
  intro p9 e9 s m9 below meth c9 ls C hin hP hS hl
  have hx := C.hx
  have hb := C.hb
  have hH := hP
  have hl : lv_has ls 3 [(0, .ref (al (10, 0, 0))), (1, .int x)] := hl
  obtain ⟨post, hpost⟩ : ∃ zz9 : Option Value → Heap → Prop, zz9 = (fun r H => (∃ v9, r = some (.int v9)) ∧ ((¬ (nI 0 ≤ x ∧ x ≤ nI 128) ∧ PM E base al w (nI 1) nf np na nw sg rc H) ∨ ((nI 0 ≤ x ∧ x ≤ nI 128) ∧ ¬ np < 6 ∧ PM E base al w (nI 2) nf np na nw sg rc H) ∨ ((nI 0 ≤ x ∧ x ≤ nI 128) ∧ np < 6 ∧ r = some (.int (nI np)) ∧ PM E base al w (nI 0) nf (np + 1) na nw (u3 sg 3 np 0 x) rc H))) := ⟨_, rfl⟩
  rw [← hpost]
  generalize hQ : (MQ below (xQ base post) ([.ref (al (10, 0, 0)), .int x] : List Value).toArray s 0 0 (xA base)) = Q
  have hMM0 := hMM
  obtain ⟨hM, mm3, mm4, mm6, mm7, mm8, mm9, mm11, mm12, mm13, mm14, mm15, mm16, mm17, mm18⟩ := hMM
  have hI0 := hI
  obtain ⟨v16, v6, v150, vnow, vA, vS, vP, vK, vR⟩ := hI
  refine lv_iload_n hx hb dX7_party_0 rfl (lv_at hl 1 rfl) ?_
  refine lv_iconst (v := nI 0) hx hb dX7_party_1 (by decide +kernel) ?_
  refine lv_sipush (v := nI 128) hx hb dX7_party_2 (by decide +kernel) ?_
  refine x_callS C hS (m_in l (E := E) (base := base) (al := al) (w := w) (v := x) (a := nI 0) (b := nI 128)) hH kX7_in qw_764 qw_763  rfl [] rfl hl.1 (Nat.le_of_ble_eq_true rfl) ⟨Nat.le_of_ble_eq_true rfl, Nat.le_of_ble_eq_true rfl⟩ dX7_party_5 ⟨Nat.le_of_ble_eq_true rfl, Nat.le_of_ble_eq_true rfl⟩ (fun r_2 H locs hp_1 hS => ?_)
  obtain ⟨rfl, hH⟩ := hp_1
  refine lv_istore_n (lv' := [(2, .int (ob (inB x (nI 0) (nI 128)))), (0, .ref (al (10, 0, 0))), (1, .int x)]) hx hb dX7_party_8 rfl hl (by decide) rfl (fun ls hl => ?_)
  refine lv_aload_n hx hb dX7_party_9 rfl (lv_at hl 1 rfl) ?_
  refine lv_iload_n hx hb dX7_party_10 rfl (lv_at hl 0 rfl) ?_
  refine lv_if_ne (tgt := 18) hx hb dX7_party_11 (by decide) (fun c_3 => ?_) (fun c_3 => ?_)
  · skip
    replace c_3 := ob_n.mp c_3
    refine lv_aload_n hx hb dX7_party_18 rfl (lv_at hl 1 rfl) ?_
    refine x_get C hH (ci := 8) (T := TX7) (N := 19) hM rfl iWX7 5 (by decide) qw_701 rfl rfl dX7_party_19 ?_
    refine lv_bipush (v := nI 6) hx hb dX7_party_22 (by decide +kernel) ?_
    refine lv_icmp_ne (tgt := 31) hx hb dX7_party_24 (by decide) (fun c_4 => ?_) (fun c_4 => ?_)
    · skip
      replace c_4 := mt (nI_eq (by omega) (by omega)).mpr c_4
      refine lv_iconst (v := nI 0) hx hb dX7_party_31 (by decide +kernel) ?_
      refine x_callV C hH hS (ci := 8) (t := (10, 0, 0)) hM rfl rfl (m_goes l (E := E) (base := base) hMM0 (k := 0) (by omega)) hH kX7_goesWell qw_768 (ws_p (List.mem_of_getElem? (i := 19) rfl) rfl) qw_766  rfl [] rfl hl.1 (Nat.le_of_ble_eq_true rfl) ⟨Nat.le_of_ble_eq_true rfl, Nat.le_of_ble_eq_true rfl⟩ dX7_party_32 ⟨Nat.le_of_ble_eq_true rfl, Nat.le_of_ble_eq_true rfl⟩ (fun r_6 H locs hp_5 hS => ?_)
      obtain ⟨rfl, hH⟩ := hp_5
      have hMM1 := hMM0.goes (nI 0)
      have hMMx := hMM1
      obtain ⟨hM, mm3, mm4, mm6, mm7, mm8, mm9, mm11, mm12, mm13, mm14, mm15, mm16, mm17, mm18⟩ := hMMx
      refine lv_re (y := nI 1) rfl ?_
      have hl9 : np < 6 := by omega
      refine lv_if_ne (tgt := 40) hx hb dX7_party_35 (by decide) (fun c_7 => ?_) (fun c_7 => absurd c_7 (by decide +kernel))
      clear c_7
      refine lv_aload_n hx hb dX7_party_40 rfl (lv_at hl 1 rfl) ?_
      refine x_get C hH (ci := 8) (T := TX7) (N := 19) hM rfl iWX7 6 (by decide) qw_702 rfl rfl dX7_party_41 ?_
      refine lv_aload_n hx hb dX7_party_44 rfl (lv_at hl 1 rfl) ?_
      refine x_get C hH (ci := 8) (T := TX7) (N := 19) hM rfl iWX7 5 (by decide) qw_701 rfl rfl dX7_party_45 ?_
      refine lv_iload_n hx hb dX7_party_48 rfl (lv_at hl 2 rfl) ?_
      refine x_iast C hH hS mm6 (j := np) rfl (by omega) (by omega) dX7_party_49 (fun H locs hH hS => ?_)
      have hM := xu_of (t := (10, 6, 0)) (e := .inl (E.2.1 0, 6, .inl (upd (fun i => sg 3 i 0) np x))) (by simp) hM
      have mm3 := xu_of (t := (10, 6, 0)) (e := .inl (E.2.1 0, 6, .inl (upd (fun i => sg 3 i 0) np x))) (by simp) mm3
      have mm4 := xu_of (t := (10, 6, 0)) (e := .inl (E.2.1 0, 6, .inl (upd (fun i => sg 3 i 0) np x))) (by simp) mm4
      have mm7 := xu_of (t := (10, 6, 0)) (e := .inl (E.2.1 0, 6, .inl (upd (fun i => sg 3 i 0) np x))) (by simp) mm7
      have mm8 := xu_of (t := (10, 6, 0)) (e := .inl (E.2.1 0, 6, .inl (upd (fun i => sg 3 i 0) np x))) (by simp) mm8
      have mm9 := xu_of (t := (10, 6, 0)) (e := .inl (E.2.1 0, 6, .inl (upd (fun i => sg 3 i 0) np x))) (by simp) mm9
      have mm11 := xu_of (t := (10, 6, 0)) (e := .inl (E.2.1 0, 6, .inl (upd (fun i => sg 3 i 0) np x))) (by simp) mm11
      have mm12 := xu_of (t := (10, 6, 0)) (e := .inl (E.2.1 0, 6, .inl (upd (fun i => sg 3 i 0) np x))) (by simp) mm12
      have mm13 := xu_of (t := (10, 6, 0)) (e := .inl (E.2.1 0, 6, .inl (upd (fun i => sg 3 i 0) np x))) (by simp) mm13
      have mm14 := xu_of (t := (10, 6, 0)) (e := .inl (E.2.1 0, 6, .inl (upd (fun i => sg 3 i 0) np x))) (by simp) mm14
      have mm15 := xu_of (t := (10, 6, 0)) (e := .inl (E.2.1 0, 6, .inl (upd (fun i => sg 3 i 0) np x))) (by simp) mm15
      have mm16 := xu_of (t := (10, 6, 0)) (e := .inl (E.2.1 0, 6, .inl (upd (fun i => sg 3 i 0) np x))) (by simp) mm16
      have mm17 := xu_of (t := (10, 6, 0)) (e := .inl (E.2.1 0, 6, .inl (upd (fun i => sg 3 i 0) np x))) (by simp) mm17
      have mm18 := xu_of (t := (10, 6, 0)) (e := .inl (E.2.1 0, 6, .inl (upd (fun i => sg 3 i 0) np x))) (by simp) mm18
      have mm6 : (xu (xu w (10, 0, 0) (.inr (8, [.int (nI 0), .int (nI nw), .int (nI nf), .ref (al (10, 3, 0)), .ref (al (10, 4, 0)), .int (nI np), .ref (al (10, 6, 0)), .ref (al (10, 7, 0)), .ref (al (10, 8, 0)), .ref (al (10, 9, 0)), .int (nI na), .ref (al (10, 11, 0)), .ref (al (10, 12, 0)), .ref (al (10, 13, 0)), .ref (al (10, 14, 0)), .ref (al (10, 15, 0)), .ref (al (10, 16, 0)), .ref (al (10, 17, 0)), .ref (al (10, 18, 0))]))) (10, 6, 0) (.inl (E.2.1 0, 6, .inl (upd (fun i => sg 3 i 0) np x)))) (10, 6, 0) = some (.inl (E.2.1 0, 6, .inl (upd (fun i => sg 3 i 0) np x))) := xu_self _ _ _
      refine lv_aload_n hx hb dX7_party_50 rfl (lv_at hl 1 rfl) ?_
      refine lv_dup hx hb dX7_party_51 rfl ?_
      refine x_get C hH (ci := 8) (T := TX7) (N := 19) hM rfl iWX7 5 (by decide) qw_701 rfl rfl dX7_party_52 ?_
      refine lv_iconst (v := nI 1) hx hb dX7_party_55 (by decide +kernel) ?_
      refine lv_iadd hx hb dX7_party_56 ?_
      refine lv_re (nI_add _ _) ?_
      refine x_put C hH hS (ci := 8) (T := TX7) (N := 19) (fs' := [.int (nI 0), .int (nI nw), .int (nI nf), .ref (al (10, 3, 0)), .ref (al (10, 4, 0)), .int (nI (np + 1)), .ref (al (10, 6, 0)), .ref (al (10, 7, 0)), .ref (al (10, 8, 0)), .ref (al (10, 9, 0)), .int (nI na), .ref (al (10, 11, 0)), .ref (al (10, 12, 0)), .ref (al (10, 13, 0)), .ref (al (10, 14, 0)), .ref (al (10, 15, 0)), .ref (al (10, 16, 0)), .ref (al (10, 17, 0)), .ref (al (10, 18, 0))]) hM rfl iWX7 tyX7 tyX7_ok nmX7 5 (by decide) qw_701 rfl rfl rfl rfl (Nat.le_of_ble_eq_true rfl) rfl dX7_party_57 (fun H locs hH hS => ?_)
      have mm3 := xu_of (t := (10, 0, 0)) (e := .inr (8, [.int (nI 0), .int (nI nw), .int (nI nf), .ref (al (10, 3, 0)), .ref (al (10, 4, 0)), .int (nI (np + 1)), .ref (al (10, 6, 0)), .ref (al (10, 7, 0)), .ref (al (10, 8, 0)), .ref (al (10, 9, 0)), .int (nI na), .ref (al (10, 11, 0)), .ref (al (10, 12, 0)), .ref (al (10, 13, 0)), .ref (al (10, 14, 0)), .ref (al (10, 15, 0)), .ref (al (10, 16, 0)), .ref (al (10, 17, 0)), .ref (al (10, 18, 0))])) (by simp) mm3
      have mm4 := xu_of (t := (10, 0, 0)) (e := .inr (8, [.int (nI 0), .int (nI nw), .int (nI nf), .ref (al (10, 3, 0)), .ref (al (10, 4, 0)), .int (nI (np + 1)), .ref (al (10, 6, 0)), .ref (al (10, 7, 0)), .ref (al (10, 8, 0)), .ref (al (10, 9, 0)), .int (nI na), .ref (al (10, 11, 0)), .ref (al (10, 12, 0)), .ref (al (10, 13, 0)), .ref (al (10, 14, 0)), .ref (al (10, 15, 0)), .ref (al (10, 16, 0)), .ref (al (10, 17, 0)), .ref (al (10, 18, 0))])) (by simp) mm4
      have mm6 := xu_of (t := (10, 0, 0)) (e := .inr (8, [.int (nI 0), .int (nI nw), .int (nI nf), .ref (al (10, 3, 0)), .ref (al (10, 4, 0)), .int (nI (np + 1)), .ref (al (10, 6, 0)), .ref (al (10, 7, 0)), .ref (al (10, 8, 0)), .ref (al (10, 9, 0)), .int (nI na), .ref (al (10, 11, 0)), .ref (al (10, 12, 0)), .ref (al (10, 13, 0)), .ref (al (10, 14, 0)), .ref (al (10, 15, 0)), .ref (al (10, 16, 0)), .ref (al (10, 17, 0)), .ref (al (10, 18, 0))])) (by simp) mm6
      have mm7 := xu_of (t := (10, 0, 0)) (e := .inr (8, [.int (nI 0), .int (nI nw), .int (nI nf), .ref (al (10, 3, 0)), .ref (al (10, 4, 0)), .int (nI (np + 1)), .ref (al (10, 6, 0)), .ref (al (10, 7, 0)), .ref (al (10, 8, 0)), .ref (al (10, 9, 0)), .int (nI na), .ref (al (10, 11, 0)), .ref (al (10, 12, 0)), .ref (al (10, 13, 0)), .ref (al (10, 14, 0)), .ref (al (10, 15, 0)), .ref (al (10, 16, 0)), .ref (al (10, 17, 0)), .ref (al (10, 18, 0))])) (by simp) mm7
      have mm8 := xu_of (t := (10, 0, 0)) (e := .inr (8, [.int (nI 0), .int (nI nw), .int (nI nf), .ref (al (10, 3, 0)), .ref (al (10, 4, 0)), .int (nI (np + 1)), .ref (al (10, 6, 0)), .ref (al (10, 7, 0)), .ref (al (10, 8, 0)), .ref (al (10, 9, 0)), .int (nI na), .ref (al (10, 11, 0)), .ref (al (10, 12, 0)), .ref (al (10, 13, 0)), .ref (al (10, 14, 0)), .ref (al (10, 15, 0)), .ref (al (10, 16, 0)), .ref (al (10, 17, 0)), .ref (al (10, 18, 0))])) (by simp) mm8
      have mm9 := xu_of (t := (10, 0, 0)) (e := .inr (8, [.int (nI 0), .int (nI nw), .int (nI nf), .ref (al (10, 3, 0)), .ref (al (10, 4, 0)), .int (nI (np + 1)), .ref (al (10, 6, 0)), .ref (al (10, 7, 0)), .ref (al (10, 8, 0)), .ref (al (10, 9, 0)), .int (nI na), .ref (al (10, 11, 0)), .ref (al (10, 12, 0)), .ref (al (10, 13, 0)), .ref (al (10, 14, 0)), .ref (al (10, 15, 0)), .ref (al (10, 16, 0)), .ref (al (10, 17, 0)), .ref (al (10, 18, 0))])) (by simp) mm9
      have mm11 := xu_of (t := (10, 0, 0)) (e := .inr (8, [.int (nI 0), .int (nI nw), .int (nI nf), .ref (al (10, 3, 0)), .ref (al (10, 4, 0)), .int (nI (np + 1)), .ref (al (10, 6, 0)), .ref (al (10, 7, 0)), .ref (al (10, 8, 0)), .ref (al (10, 9, 0)), .int (nI na), .ref (al (10, 11, 0)), .ref (al (10, 12, 0)), .ref (al (10, 13, 0)), .ref (al (10, 14, 0)), .ref (al (10, 15, 0)), .ref (al (10, 16, 0)), .ref (al (10, 17, 0)), .ref (al (10, 18, 0))])) (by simp) mm11
      have mm12 := xu_of (t := (10, 0, 0)) (e := .inr (8, [.int (nI 0), .int (nI nw), .int (nI nf), .ref (al (10, 3, 0)), .ref (al (10, 4, 0)), .int (nI (np + 1)), .ref (al (10, 6, 0)), .ref (al (10, 7, 0)), .ref (al (10, 8, 0)), .ref (al (10, 9, 0)), .int (nI na), .ref (al (10, 11, 0)), .ref (al (10, 12, 0)), .ref (al (10, 13, 0)), .ref (al (10, 14, 0)), .ref (al (10, 15, 0)), .ref (al (10, 16, 0)), .ref (al (10, 17, 0)), .ref (al (10, 18, 0))])) (by simp) mm12
      have mm13 := xu_of (t := (10, 0, 0)) (e := .inr (8, [.int (nI 0), .int (nI nw), .int (nI nf), .ref (al (10, 3, 0)), .ref (al (10, 4, 0)), .int (nI (np + 1)), .ref (al (10, 6, 0)), .ref (al (10, 7, 0)), .ref (al (10, 8, 0)), .ref (al (10, 9, 0)), .int (nI na), .ref (al (10, 11, 0)), .ref (al (10, 12, 0)), .ref (al (10, 13, 0)), .ref (al (10, 14, 0)), .ref (al (10, 15, 0)), .ref (al (10, 16, 0)), .ref (al (10, 17, 0)), .ref (al (10, 18, 0))])) (by simp) mm13
      have mm14 := xu_of (t := (10, 0, 0)) (e := .inr (8, [.int (nI 0), .int (nI nw), .int (nI nf), .ref (al (10, 3, 0)), .ref (al (10, 4, 0)), .int (nI (np + 1)), .ref (al (10, 6, 0)), .ref (al (10, 7, 0)), .ref (al (10, 8, 0)), .ref (al (10, 9, 0)), .int (nI na), .ref (al (10, 11, 0)), .ref (al (10, 12, 0)), .ref (al (10, 13, 0)), .ref (al (10, 14, 0)), .ref (al (10, 15, 0)), .ref (al (10, 16, 0)), .ref (al (10, 17, 0)), .ref (al (10, 18, 0))])) (by simp) mm14
      have mm15 := xu_of (t := (10, 0, 0)) (e := .inr (8, [.int (nI 0), .int (nI nw), .int (nI nf), .ref (al (10, 3, 0)), .ref (al (10, 4, 0)), .int (nI (np + 1)), .ref (al (10, 6, 0)), .ref (al (10, 7, 0)), .ref (al (10, 8, 0)), .ref (al (10, 9, 0)), .int (nI na), .ref (al (10, 11, 0)), .ref (al (10, 12, 0)), .ref (al (10, 13, 0)), .ref (al (10, 14, 0)), .ref (al (10, 15, 0)), .ref (al (10, 16, 0)), .ref (al (10, 17, 0)), .ref (al (10, 18, 0))])) (by simp) mm15
      have mm16 := xu_of (t := (10, 0, 0)) (e := .inr (8, [.int (nI 0), .int (nI nw), .int (nI nf), .ref (al (10, 3, 0)), .ref (al (10, 4, 0)), .int (nI (np + 1)), .ref (al (10, 6, 0)), .ref (al (10, 7, 0)), .ref (al (10, 8, 0)), .ref (al (10, 9, 0)), .int (nI na), .ref (al (10, 11, 0)), .ref (al (10, 12, 0)), .ref (al (10, 13, 0)), .ref (al (10, 14, 0)), .ref (al (10, 15, 0)), .ref (al (10, 16, 0)), .ref (al (10, 17, 0)), .ref (al (10, 18, 0))])) (by simp) mm16
      have mm17 := xu_of (t := (10, 0, 0)) (e := .inr (8, [.int (nI 0), .int (nI nw), .int (nI nf), .ref (al (10, 3, 0)), .ref (al (10, 4, 0)), .int (nI (np + 1)), .ref (al (10, 6, 0)), .ref (al (10, 7, 0)), .ref (al (10, 8, 0)), .ref (al (10, 9, 0)), .int (nI na), .ref (al (10, 11, 0)), .ref (al (10, 12, 0)), .ref (al (10, 13, 0)), .ref (al (10, 14, 0)), .ref (al (10, 15, 0)), .ref (al (10, 16, 0)), .ref (al (10, 17, 0)), .ref (al (10, 18, 0))])) (by simp) mm17
      have mm18 := xu_of (t := (10, 0, 0)) (e := .inr (8, [.int (nI 0), .int (nI nw), .int (nI nf), .ref (al (10, 3, 0)), .ref (al (10, 4, 0)), .int (nI (np + 1)), .ref (al (10, 6, 0)), .ref (al (10, 7, 0)), .ref (al (10, 8, 0)), .ref (al (10, 9, 0)), .int (nI na), .ref (al (10, 11, 0)), .ref (al (10, 12, 0)), .ref (al (10, 13, 0)), .ref (al (10, 14, 0)), .ref (al (10, 15, 0)), .ref (al (10, 16, 0)), .ref (al (10, 17, 0)), .ref (al (10, 18, 0))])) (by simp) mm18
      have hM : (xu (xu (xu w (10, 0, 0) (.inr (8, [.int (nI 0), .int (nI nw), .int (nI nf), .ref (al (10, 3, 0)), .ref (al (10, 4, 0)), .int (nI np), .ref (al (10, 6, 0)), .ref (al (10, 7, 0)), .ref (al (10, 8, 0)), .ref (al (10, 9, 0)), .int (nI na), .ref (al (10, 11, 0)), .ref (al (10, 12, 0)), .ref (al (10, 13, 0)), .ref (al (10, 14, 0)), .ref (al (10, 15, 0)), .ref (al (10, 16, 0)), .ref (al (10, 17, 0)), .ref (al (10, 18, 0))]))) (10, 6, 0) (.inl (E.2.1 0, 6, .inl (upd (fun i => sg 3 i 0) np x)))) (10, 0, 0) (.inr (8, [.int (nI 0), .int (nI nw), .int (nI nf), .ref (al (10, 3, 0)), .ref (al (10, 4, 0)), .int (nI (np + 1)), .ref (al (10, 6, 0)), .ref (al (10, 7, 0)), .ref (al (10, 8, 0)), .ref (al (10, 9, 0)), .int (nI na), .ref (al (10, 11, 0)), .ref (al (10, 12, 0)), .ref (al (10, 13, 0)), .ref (al (10, 14, 0)), .ref (al (10, 15, 0)), .ref (al (10, 16, 0)), .ref (al (10, 17, 0)), .ref (al (10, 18, 0))]))) (10, 0, 0) = some (.inr (8, [.int (nI 0), .int (nI nw), .int (nI nf), .ref (al (10, 3, 0)), .ref (al (10, 4, 0)), .int (nI (np + 1)), .ref (al (10, 6, 0)), .ref (al (10, 7, 0)), .ref (al (10, 8, 0)), .ref (al (10, 9, 0)), .int (nI na), .ref (al (10, 11, 0)), .ref (al (10, 12, 0)), .ref (al (10, 13, 0)), .ref (al (10, 14, 0)), .ref (al (10, 15, 0)), .ref (al (10, 16, 0)), .ref (al (10, 17, 0)), .ref (al (10, 18, 0))])) := xu_self _ _ _
      refine lv_aload_n hx hb dX7_party_60 rfl (lv_at hl 1 rfl) ?_
      refine x_get C hH (ci := 8) (T := TX7) (N := 19) hM rfl iWX7 5 (by decide) qw_701 rfl rfl dX7_party_61 ?_
      refine lv_iconst (v := nI 1) hx hb dX7_party_64 (by decide +kernel) ?_
      refine lv_isub hx hb dX7_party_65 ?_
      refine lv_re (dI_sub _) ?_
      rw [← hQ]
      refine x_reti C rfl hS (Nat.le_of_ble_eq_true rfl) (Nat.le_of_ble_eq_true rfl) dX7_party_66 ?_
      rw [hpost]
      exact ⟨⟨_, rfl⟩, Or.inr (Or.inr ⟨inB_t c_3, by omega, by rw [dI_s], PM_of hH (MMf.addP hMM1) (fun t ht => by rw [xu_ne (fun e => ht (by rw [e])), xu_ne (fun e => ht (by rw [e])), xu_ne (fun e => ht (by rw [e]))])⟩)⟩
    · skip
      replace c_4 := (nI_eq (by omega) (by omega)).mp c_4
      refine lv_iconst (v := nI 2) hx hb dX7_party_27 (by decide +kernel) ?_
      refine lv_goto (tgt := 32) hx hb dX7_party_28 (by decide) ?_
      refine x_callV C hH hS (ci := 8) (t := (10, 0, 0)) hM rfl rfl (m_goes l (E := E) (base := base) hMM0 (k := 2) (by omega)) hH kX7_goesWell qw_768 (ws_p (List.mem_of_getElem? (i := 19) rfl) rfl) qw_766  rfl [] rfl hl.1 (Nat.le_of_ble_eq_true rfl) ⟨Nat.le_of_ble_eq_true rfl, Nat.le_of_ble_eq_true rfl⟩ dX7_party_32 ⟨Nat.le_of_ble_eq_true rfl, Nat.le_of_ble_eq_true rfl⟩ (fun r_9 H locs hp_8 hS => ?_)
      obtain ⟨rfl, hH⟩ := hp_8
      have hMM1 := hMM0.goes (nI 2)
      have hMMx := hMM1
      obtain ⟨hM, mm3, mm4, mm6, mm7, mm8, mm9, mm11, mm12, mm13, mm14, mm15, mm16, mm17, mm18⟩ := hMMx
      refine lv_re (y := nI 0) rfl ?_
      refine lv_if_ne (tgt := 40) hx hb dX7_party_35 (by decide) (fun c_10 => absurd (by decide +kernel) c_10) (fun c_10 => ?_)
      clear c_10
      refine lv_iconst (v := nI 0) hx hb dX7_party_38 (by decide +kernel) ?_
      rw [← hQ]
      refine x_reti C rfl hS (Nat.le_of_ble_eq_true rfl) (Nat.le_of_ble_eq_true rfl) dX7_party_39 ?_
      rw [hpost]
      exact ⟨⟨_, rfl⟩, Or.inr (Or.inl ⟨inB_t c_3, by omega, PM_th hH hMM0⟩)⟩
  · skip
    replace c_3 := ob_0.mp c_3
    refine lv_iconst (v := nI 1) hx hb dX7_party_14 (by decide +kernel) ?_
    refine lv_goto (tgt := 32) hx hb dX7_party_15 (by decide) ?_
    refine x_callV C hH hS (ci := 8) (t := (10, 0, 0)) hM rfl rfl (m_goes l (E := E) (base := base) hMM0 (k := 1) (by omega)) hH kX7_goesWell qw_768 (ws_p (List.mem_of_getElem? (i := 19) rfl) rfl) qw_766  rfl [] rfl hl.1 (Nat.le_of_ble_eq_true rfl) ⟨Nat.le_of_ble_eq_true rfl, Nat.le_of_ble_eq_true rfl⟩ dX7_party_32 ⟨Nat.le_of_ble_eq_true rfl, Nat.le_of_ble_eq_true rfl⟩ (fun r_12 H locs hp_11 hS => ?_)
    obtain ⟨rfl, hH⟩ := hp_11
    have hMM1 := hMM0.goes (nI 1)
    have hMMx := hMM1
    obtain ⟨hM, mm3, mm4, mm6, mm7, mm8, mm9, mm11, mm12, mm13, mm14, mm15, mm16, mm17, mm18⟩ := hMMx
    refine lv_re (y := nI 0) rfl ?_
    refine lv_if_ne (tgt := 40) hx hb dX7_party_35 (by decide) (fun c_13 => absurd (by decide +kernel) c_13) (fun c_13 => ?_)
    clear c_13
    refine lv_iconst (v := nI 0) hx hb dX7_party_38 (by decide +kernel) ?_
    rw [← hQ]
    refine x_reti C rfl hS (Nat.le_of_ble_eq_true rfl) (Nat.le_of_ble_eq_true rfl) dX7_party_39 ?_
    rw [hpost]
    exact ⟨⟨_, rfl⟩, Or.inl ⟨inB_f c_3, PM_th hH hMM0⟩⟩

set_option maxHeartbeats 4000000 in
set_option maxRecDepth 100000 in
theorem m_pass (l : Launch) {E : xE} {base : Nat} {al : Tg → Nat} {w : Tg → Option va_E} {th : Int32} {nf np na nw : Nat} {sg : Nat → Nat → Nat → Int32} {rc : Nat → Bool} {fr : Nat → Int32} (hMM : MMf E al w th nf np na nw sg rc fr) (hI : INV nf np na nw sg rc) {x : Int32} : xMet l yX7_pass cX7_pass 3 (some (.int)) ({ frames := 1, cells := 0, slots := 0, locals := 22 } : Room) E base [.ref (al (10, 0, 0)), .int x] (fun H => xH E base al w H) (fun r H => (∃ v9, r = some (.int v9)) ∧ ((¬ (nI 1 ≤ x ∧ x ≤ nI 500) ∧ PM E base al w (nI 1) nf np na nw sg rc H) ∨ ((nI 1 ≤ x ∧ x ≤ nI 500) ∧ ¬ nI nw + x ≤ nI 5000 ∧ PM E base al w (nI 2) nf np na nw sg rc H) ∨ (∃ k, x = nI k ∧ (nI 1 ≤ x ∧ x ≤ nI 500) ∧ nw + k ≤ 5000 ∧ r = some (.int (nI (nw + k))) ∧ PM E base al w (nI 0) nf np na (nw + k) sg rc H))) := by
  refine xMet.of (by decide +kernel) "DataroomModel" rfl (Nat.le_of_ble_eq_true rfl) ?_
  intro p9 e9 s m9 below meth c9 ls C hin hP hS hl
  have hx := C.hx
  have hb := C.hb
  have hH := hP
  have hl : lv_has ls 3 [(0, .ref (al (10, 0, 0))), (1, .int x)] := hl
  obtain ⟨post, hpost⟩ : ∃ zz9 : Option Value → Heap → Prop, zz9 = (fun r H => (∃ v9, r = some (.int v9)) ∧ ((¬ (nI 1 ≤ x ∧ x ≤ nI 500) ∧ PM E base al w (nI 1) nf np na nw sg rc H) ∨ ((nI 1 ≤ x ∧ x ≤ nI 500) ∧ ¬ nI nw + x ≤ nI 5000 ∧ PM E base al w (nI 2) nf np na nw sg rc H) ∨ (∃ k, x = nI k ∧ (nI 1 ≤ x ∧ x ≤ nI 500) ∧ nw + k ≤ 5000 ∧ r = some (.int (nI (nw + k))) ∧ PM E base al w (nI 0) nf np na (nw + k) sg rc H))) := ⟨_, rfl⟩
  rw [← hpost]
  generalize hQ : (MQ below (xQ base post) ([.ref (al (10, 0, 0)), .int x] : List Value).toArray s 0 0 (xA base)) = Q
  have hMM0 := hMM
  obtain ⟨hM, mm3, mm4, mm6, mm7, mm8, mm9, mm11, mm12, mm13, mm14, mm15, mm16, mm17, mm18⟩ := hMM
  have hI0 := hI
  obtain ⟨v16, v6, v150, vnow, vA, vS, vP, vK, vR⟩ := hI
  refine lv_iload_n hx hb dX7_pass_0 rfl (lv_at hl 1 rfl) ?_
  refine lv_iconst (v := nI 1) hx hb dX7_pass_1 (by decide +kernel) ?_
  refine lv_sipush (v := nI 500) hx hb dX7_pass_2 (by decide +kernel) ?_
  refine x_callS C hS (m_in l (E := E) (base := base) (al := al) (w := w) (v := x) (a := nI 1) (b := nI 500)) hH kX7_in qw_764 qw_763  rfl [] rfl hl.1 (Nat.le_of_ble_eq_true rfl) ⟨Nat.le_of_ble_eq_true rfl, Nat.le_of_ble_eq_true rfl⟩ dX7_pass_5 ⟨Nat.le_of_ble_eq_true rfl, Nat.le_of_ble_eq_true rfl⟩ (fun r_2 H locs hp_1 hS => ?_)
  obtain ⟨rfl, hH⟩ := hp_1
  refine lv_istore_n (lv' := [(2, .int (ob (inB x (nI 1) (nI 500)))), (0, .ref (al (10, 0, 0))), (1, .int x)]) hx hb dX7_pass_8 rfl hl (by decide) rfl (fun ls hl => ?_)
  refine lv_aload_n hx hb dX7_pass_9 rfl (lv_at hl 1 rfl) ?_
  refine lv_iload_n hx hb dX7_pass_10 rfl (lv_at hl 0 rfl) ?_
  refine lv_if_ne (tgt := 18) hx hb dX7_pass_11 (by decide) (fun c_3 => ?_) (fun c_3 => ?_)
  · skip
    replace c_3 := ob_n.mp c_3
    obtain ⟨k, hk, rfl⟩ := rg_of (n := 500) (by omega) ⟨Int32.le_trans (by decide) (inB_t c_3).1, (inB_t c_3).2⟩
    refine lv_aload_n hx hb dX7_pass_18 rfl (lv_at hl 1 rfl) ?_
    refine x_get C hH (ci := 8) (T := TX7) (N := 19) hM rfl iWX7 1 (by decide) qw_697 rfl rfl dX7_pass_19 ?_
    refine lv_iload_n hx hb dX7_pass_22 rfl (lv_at hl 2 rfl) ?_
    refine lv_iadd hx hb dX7_pass_23 ?_
    refine lv_re (nI_add _ _) ?_
    refine lv_sipush (v := nI 5000) hx hb dX7_pass_24 (by decide +kernel) ?_
    refine lv_icmp_le (tgt := 34) hx hb dX7_pass_27 (by decide) (fun c_4 => ?_) (fun c_4 => ?_)
    · skip
      replace c_4 := (nI_leI (by omega) (by omega)).mp c_4
      refine lv_iconst (v := nI 0) hx hb dX7_pass_34 (by decide +kernel) ?_
      refine x_callV C hH hS (ci := 8) (t := (10, 0, 0)) hM rfl rfl (m_goes l (E := E) (base := base) hMM0 (k := 0) (by omega)) hH kX7_goesWell qw_768 (ws_p (List.mem_of_getElem? (i := 19) rfl) rfl) qw_766  rfl [] rfl hl.1 (Nat.le_of_ble_eq_true rfl) ⟨Nat.le_of_ble_eq_true rfl, Nat.le_of_ble_eq_true rfl⟩ dX7_pass_35 ⟨Nat.le_of_ble_eq_true rfl, Nat.le_of_ble_eq_true rfl⟩ (fun r_6 H locs hp_5 hS => ?_)
      obtain ⟨rfl, hH⟩ := hp_5
      have hMM1 := hMM0.goes (nI 0)
      have hMMx := hMM1
      obtain ⟨hM, mm3, mm4, mm6, mm7, mm8, mm9, mm11, mm12, mm13, mm14, mm15, mm16, mm17, mm18⟩ := hMMx
      refine lv_re (y := nI 1) rfl ?_
      refine lv_if_ne (tgt := 43) hx hb dX7_pass_38 (by decide) (fun c_7 => ?_) (fun c_7 => absurd c_7 (by decide +kernel))
      clear c_7
      refine lv_aload_n hx hb dX7_pass_43 rfl (lv_at hl 1 rfl) ?_
      refine lv_dup hx hb dX7_pass_44 rfl ?_
      refine x_get C hH (ci := 8) (T := TX7) (N := 19) hM rfl iWX7 1 (by decide) qw_697 rfl rfl dX7_pass_45 ?_
      refine lv_iload_n hx hb dX7_pass_48 rfl (lv_at hl 2 rfl) ?_
      refine lv_iadd hx hb dX7_pass_49 ?_
      refine lv_re (nI_add _ _) ?_
      refine x_put C hH hS (ci := 8) (T := TX7) (N := 19) (fs' := [.int (nI 0), .int (nI (nw + k)), .int (nI nf), .ref (al (10, 3, 0)), .ref (al (10, 4, 0)), .int (nI np), .ref (al (10, 6, 0)), .ref (al (10, 7, 0)), .ref (al (10, 8, 0)), .ref (al (10, 9, 0)), .int (nI na), .ref (al (10, 11, 0)), .ref (al (10, 12, 0)), .ref (al (10, 13, 0)), .ref (al (10, 14, 0)), .ref (al (10, 15, 0)), .ref (al (10, 16, 0)), .ref (al (10, 17, 0)), .ref (al (10, 18, 0))]) hM rfl iWX7 tyX7 tyX7_ok nmX7 1 (by decide) qw_697 rfl rfl rfl rfl (Nat.le_of_ble_eq_true rfl) rfl dX7_pass_50 (fun H locs hH hS => ?_)
      have mm3 := xu_of (t := (10, 0, 0)) (e := .inr (8, [.int (nI 0), .int (nI (nw + k)), .int (nI nf), .ref (al (10, 3, 0)), .ref (al (10, 4, 0)), .int (nI np), .ref (al (10, 6, 0)), .ref (al (10, 7, 0)), .ref (al (10, 8, 0)), .ref (al (10, 9, 0)), .int (nI na), .ref (al (10, 11, 0)), .ref (al (10, 12, 0)), .ref (al (10, 13, 0)), .ref (al (10, 14, 0)), .ref (al (10, 15, 0)), .ref (al (10, 16, 0)), .ref (al (10, 17, 0)), .ref (al (10, 18, 0))])) (by simp) mm3
      have mm4 := xu_of (t := (10, 0, 0)) (e := .inr (8, [.int (nI 0), .int (nI (nw + k)), .int (nI nf), .ref (al (10, 3, 0)), .ref (al (10, 4, 0)), .int (nI np), .ref (al (10, 6, 0)), .ref (al (10, 7, 0)), .ref (al (10, 8, 0)), .ref (al (10, 9, 0)), .int (nI na), .ref (al (10, 11, 0)), .ref (al (10, 12, 0)), .ref (al (10, 13, 0)), .ref (al (10, 14, 0)), .ref (al (10, 15, 0)), .ref (al (10, 16, 0)), .ref (al (10, 17, 0)), .ref (al (10, 18, 0))])) (by simp) mm4
      have mm6 := xu_of (t := (10, 0, 0)) (e := .inr (8, [.int (nI 0), .int (nI (nw + k)), .int (nI nf), .ref (al (10, 3, 0)), .ref (al (10, 4, 0)), .int (nI np), .ref (al (10, 6, 0)), .ref (al (10, 7, 0)), .ref (al (10, 8, 0)), .ref (al (10, 9, 0)), .int (nI na), .ref (al (10, 11, 0)), .ref (al (10, 12, 0)), .ref (al (10, 13, 0)), .ref (al (10, 14, 0)), .ref (al (10, 15, 0)), .ref (al (10, 16, 0)), .ref (al (10, 17, 0)), .ref (al (10, 18, 0))])) (by simp) mm6
      have mm7 := xu_of (t := (10, 0, 0)) (e := .inr (8, [.int (nI 0), .int (nI (nw + k)), .int (nI nf), .ref (al (10, 3, 0)), .ref (al (10, 4, 0)), .int (nI np), .ref (al (10, 6, 0)), .ref (al (10, 7, 0)), .ref (al (10, 8, 0)), .ref (al (10, 9, 0)), .int (nI na), .ref (al (10, 11, 0)), .ref (al (10, 12, 0)), .ref (al (10, 13, 0)), .ref (al (10, 14, 0)), .ref (al (10, 15, 0)), .ref (al (10, 16, 0)), .ref (al (10, 17, 0)), .ref (al (10, 18, 0))])) (by simp) mm7
      have mm8 := xu_of (t := (10, 0, 0)) (e := .inr (8, [.int (nI 0), .int (nI (nw + k)), .int (nI nf), .ref (al (10, 3, 0)), .ref (al (10, 4, 0)), .int (nI np), .ref (al (10, 6, 0)), .ref (al (10, 7, 0)), .ref (al (10, 8, 0)), .ref (al (10, 9, 0)), .int (nI na), .ref (al (10, 11, 0)), .ref (al (10, 12, 0)), .ref (al (10, 13, 0)), .ref (al (10, 14, 0)), .ref (al (10, 15, 0)), .ref (al (10, 16, 0)), .ref (al (10, 17, 0)), .ref (al (10, 18, 0))])) (by simp) mm8
      have mm9 := xu_of (t := (10, 0, 0)) (e := .inr (8, [.int (nI 0), .int (nI (nw + k)), .int (nI nf), .ref (al (10, 3, 0)), .ref (al (10, 4, 0)), .int (nI np), .ref (al (10, 6, 0)), .ref (al (10, 7, 0)), .ref (al (10, 8, 0)), .ref (al (10, 9, 0)), .int (nI na), .ref (al (10, 11, 0)), .ref (al (10, 12, 0)), .ref (al (10, 13, 0)), .ref (al (10, 14, 0)), .ref (al (10, 15, 0)), .ref (al (10, 16, 0)), .ref (al (10, 17, 0)), .ref (al (10, 18, 0))])) (by simp) mm9
      have mm11 := xu_of (t := (10, 0, 0)) (e := .inr (8, [.int (nI 0), .int (nI (nw + k)), .int (nI nf), .ref (al (10, 3, 0)), .ref (al (10, 4, 0)), .int (nI np), .ref (al (10, 6, 0)), .ref (al (10, 7, 0)), .ref (al (10, 8, 0)), .ref (al (10, 9, 0)), .int (nI na), .ref (al (10, 11, 0)), .ref (al (10, 12, 0)), .ref (al (10, 13, 0)), .ref (al (10, 14, 0)), .ref (al (10, 15, 0)), .ref (al (10, 16, 0)), .ref (al (10, 17, 0)), .ref (al (10, 18, 0))])) (by simp) mm11
      have mm12 := xu_of (t := (10, 0, 0)) (e := .inr (8, [.int (nI 0), .int (nI (nw + k)), .int (nI nf), .ref (al (10, 3, 0)), .ref (al (10, 4, 0)), .int (nI np), .ref (al (10, 6, 0)), .ref (al (10, 7, 0)), .ref (al (10, 8, 0)), .ref (al (10, 9, 0)), .int (nI na), .ref (al (10, 11, 0)), .ref (al (10, 12, 0)), .ref (al (10, 13, 0)), .ref (al (10, 14, 0)), .ref (al (10, 15, 0)), .ref (al (10, 16, 0)), .ref (al (10, 17, 0)), .ref (al (10, 18, 0))])) (by simp) mm12
      have mm13 := xu_of (t := (10, 0, 0)) (e := .inr (8, [.int (nI 0), .int (nI (nw + k)), .int (nI nf), .ref (al (10, 3, 0)), .ref (al (10, 4, 0)), .int (nI np), .ref (al (10, 6, 0)), .ref (al (10, 7, 0)), .ref (al (10, 8, 0)), .ref (al (10, 9, 0)), .int (nI na), .ref (al (10, 11, 0)), .ref (al (10, 12, 0)), .ref (al (10, 13, 0)), .ref (al (10, 14, 0)), .ref (al (10, 15, 0)), .ref (al (10, 16, 0)), .ref (al (10, 17, 0)), .ref (al (10, 18, 0))])) (by simp) mm13
      have mm14 := xu_of (t := (10, 0, 0)) (e := .inr (8, [.int (nI 0), .int (nI (nw + k)), .int (nI nf), .ref (al (10, 3, 0)), .ref (al (10, 4, 0)), .int (nI np), .ref (al (10, 6, 0)), .ref (al (10, 7, 0)), .ref (al (10, 8, 0)), .ref (al (10, 9, 0)), .int (nI na), .ref (al (10, 11, 0)), .ref (al (10, 12, 0)), .ref (al (10, 13, 0)), .ref (al (10, 14, 0)), .ref (al (10, 15, 0)), .ref (al (10, 16, 0)), .ref (al (10, 17, 0)), .ref (al (10, 18, 0))])) (by simp) mm14
      have mm15 := xu_of (t := (10, 0, 0)) (e := .inr (8, [.int (nI 0), .int (nI (nw + k)), .int (nI nf), .ref (al (10, 3, 0)), .ref (al (10, 4, 0)), .int (nI np), .ref (al (10, 6, 0)), .ref (al (10, 7, 0)), .ref (al (10, 8, 0)), .ref (al (10, 9, 0)), .int (nI na), .ref (al (10, 11, 0)), .ref (al (10, 12, 0)), .ref (al (10, 13, 0)), .ref (al (10, 14, 0)), .ref (al (10, 15, 0)), .ref (al (10, 16, 0)), .ref (al (10, 17, 0)), .ref (al (10, 18, 0))])) (by simp) mm15
      have mm16 := xu_of (t := (10, 0, 0)) (e := .inr (8, [.int (nI 0), .int (nI (nw + k)), .int (nI nf), .ref (al (10, 3, 0)), .ref (al (10, 4, 0)), .int (nI np), .ref (al (10, 6, 0)), .ref (al (10, 7, 0)), .ref (al (10, 8, 0)), .ref (al (10, 9, 0)), .int (nI na), .ref (al (10, 11, 0)), .ref (al (10, 12, 0)), .ref (al (10, 13, 0)), .ref (al (10, 14, 0)), .ref (al (10, 15, 0)), .ref (al (10, 16, 0)), .ref (al (10, 17, 0)), .ref (al (10, 18, 0))])) (by simp) mm16
      have mm17 := xu_of (t := (10, 0, 0)) (e := .inr (8, [.int (nI 0), .int (nI (nw + k)), .int (nI nf), .ref (al (10, 3, 0)), .ref (al (10, 4, 0)), .int (nI np), .ref (al (10, 6, 0)), .ref (al (10, 7, 0)), .ref (al (10, 8, 0)), .ref (al (10, 9, 0)), .int (nI na), .ref (al (10, 11, 0)), .ref (al (10, 12, 0)), .ref (al (10, 13, 0)), .ref (al (10, 14, 0)), .ref (al (10, 15, 0)), .ref (al (10, 16, 0)), .ref (al (10, 17, 0)), .ref (al (10, 18, 0))])) (by simp) mm17
      have mm18 := xu_of (t := (10, 0, 0)) (e := .inr (8, [.int (nI 0), .int (nI (nw + k)), .int (nI nf), .ref (al (10, 3, 0)), .ref (al (10, 4, 0)), .int (nI np), .ref (al (10, 6, 0)), .ref (al (10, 7, 0)), .ref (al (10, 8, 0)), .ref (al (10, 9, 0)), .int (nI na), .ref (al (10, 11, 0)), .ref (al (10, 12, 0)), .ref (al (10, 13, 0)), .ref (al (10, 14, 0)), .ref (al (10, 15, 0)), .ref (al (10, 16, 0)), .ref (al (10, 17, 0)), .ref (al (10, 18, 0))])) (by simp) mm18
      have hM : (xu (xu w (10, 0, 0) (.inr (8, [.int (nI 0), .int (nI nw), .int (nI nf), .ref (al (10, 3, 0)), .ref (al (10, 4, 0)), .int (nI np), .ref (al (10, 6, 0)), .ref (al (10, 7, 0)), .ref (al (10, 8, 0)), .ref (al (10, 9, 0)), .int (nI na), .ref (al (10, 11, 0)), .ref (al (10, 12, 0)), .ref (al (10, 13, 0)), .ref (al (10, 14, 0)), .ref (al (10, 15, 0)), .ref (al (10, 16, 0)), .ref (al (10, 17, 0)), .ref (al (10, 18, 0))]))) (10, 0, 0) (.inr (8, [.int (nI 0), .int (nI (nw + k)), .int (nI nf), .ref (al (10, 3, 0)), .ref (al (10, 4, 0)), .int (nI np), .ref (al (10, 6, 0)), .ref (al (10, 7, 0)), .ref (al (10, 8, 0)), .ref (al (10, 9, 0)), .int (nI na), .ref (al (10, 11, 0)), .ref (al (10, 12, 0)), .ref (al (10, 13, 0)), .ref (al (10, 14, 0)), .ref (al (10, 15, 0)), .ref (al (10, 16, 0)), .ref (al (10, 17, 0)), .ref (al (10, 18, 0))]))) (10, 0, 0) = some (.inr (8, [.int (nI 0), .int (nI (nw + k)), .int (nI nf), .ref (al (10, 3, 0)), .ref (al (10, 4, 0)), .int (nI np), .ref (al (10, 6, 0)), .ref (al (10, 7, 0)), .ref (al (10, 8, 0)), .ref (al (10, 9, 0)), .int (nI na), .ref (al (10, 11, 0)), .ref (al (10, 12, 0)), .ref (al (10, 13, 0)), .ref (al (10, 14, 0)), .ref (al (10, 15, 0)), .ref (al (10, 16, 0)), .ref (al (10, 17, 0)), .ref (al (10, 18, 0))])) := xu_self _ _ _
      refine lv_aload_n hx hb dX7_pass_53 rfl (lv_at hl 1 rfl) ?_
      refine x_get C hH (ci := 8) (T := TX7) (N := 19) hM rfl iWX7 1 (by decide) qw_697 rfl rfl dX7_pass_54 ?_
      rw [← hQ]
      refine x_reti C rfl hS (Nat.le_of_ble_eq_true rfl) (Nat.le_of_ble_eq_true rfl) dX7_pass_57 ?_
      rw [hpost]
      exact ⟨⟨_, rfl⟩, Or.inr (Or.inr ⟨k, rfl, inB_t c_3, by omega, rfl, PM_of hH (MMf.now hMM1) (fun t ht => by rw [xu_ne (fun e => ht (by rw [e])), xu_ne (fun e => ht (by rw [e]))])⟩)⟩
    · skip
      replace c_4 := mt (nI_leI (by omega) (by omega)).mpr c_4
      refine lv_iconst (v := nI 2) hx hb dX7_pass_30 (by decide +kernel) ?_
      refine lv_goto (tgt := 35) hx hb dX7_pass_31 (by decide) ?_
      refine x_callV C hH hS (ci := 8) (t := (10, 0, 0)) hM rfl rfl (m_goes l (E := E) (base := base) hMM0 (k := 2) (by omega)) hH kX7_goesWell qw_768 (ws_p (List.mem_of_getElem? (i := 19) rfl) rfl) qw_766  rfl [] rfl hl.1 (Nat.le_of_ble_eq_true rfl) ⟨Nat.le_of_ble_eq_true rfl, Nat.le_of_ble_eq_true rfl⟩ dX7_pass_35 ⟨Nat.le_of_ble_eq_true rfl, Nat.le_of_ble_eq_true rfl⟩ (fun r_9 H locs hp_8 hS => ?_)
      obtain ⟨rfl, hH⟩ := hp_8
      have hMM1 := hMM0.goes (nI 2)
      have hMMx := hMM1
      obtain ⟨hM, mm3, mm4, mm6, mm7, mm8, mm9, mm11, mm12, mm13, mm14, mm15, mm16, mm17, mm18⟩ := hMMx
      refine lv_re (y := nI 0) rfl ?_
      refine lv_if_ne (tgt := 43) hx hb dX7_pass_38 (by decide) (fun c_10 => absurd (by decide +kernel) c_10) (fun c_10 => ?_)
      clear c_10
      refine lv_iconst (v := nI 0) hx hb dX7_pass_41 (by decide +kernel) ?_
      rw [← hQ]
      refine x_reti C rfl hS (Nat.le_of_ble_eq_true rfl) (Nat.le_of_ble_eq_true rfl) dX7_pass_42 ?_
      rw [hpost]
      exact ⟨⟨_, rfl⟩, Or.inr (Or.inl ⟨inB_t c_3, by rw [nI_add]; exact mt (nI_leI (by omega) (by omega)).mp c_4, PM_th hH hMM0⟩)⟩
  · skip
    replace c_3 := ob_0.mp c_3
    refine lv_iconst (v := nI 1) hx hb dX7_pass_14 (by decide +kernel) ?_
    refine lv_goto (tgt := 35) hx hb dX7_pass_15 (by decide) ?_
    refine x_callV C hH hS (ci := 8) (t := (10, 0, 0)) hM rfl rfl (m_goes l (E := E) (base := base) hMM0 (k := 1) (by omega)) hH kX7_goesWell qw_768 (ws_p (List.mem_of_getElem? (i := 19) rfl) rfl) qw_766  rfl [] rfl hl.1 (Nat.le_of_ble_eq_true rfl) ⟨Nat.le_of_ble_eq_true rfl, Nat.le_of_ble_eq_true rfl⟩ dX7_pass_35 ⟨Nat.le_of_ble_eq_true rfl, Nat.le_of_ble_eq_true rfl⟩ (fun r_12 H locs hp_11 hS => ?_)
    obtain ⟨rfl, hH⟩ := hp_11
    have hMM1 := hMM0.goes (nI 1)
    have hMMx := hMM1
    obtain ⟨hM, mm3, mm4, mm6, mm7, mm8, mm9, mm11, mm12, mm13, mm14, mm15, mm16, mm17, mm18⟩ := hMMx
    refine lv_re (y := nI 0) rfl ?_
    refine lv_if_ne (tgt := 43) hx hb dX7_pass_38 (by decide) (fun c_13 => absurd (by decide +kernel) c_13) (fun c_13 => ?_)
    clear c_13
    refine lv_iconst (v := nI 0) hx hb dX7_pass_41 (by decide +kernel) ?_
    rw [← hQ]
    refine x_reti C rfl hS (Nat.le_of_ble_eq_true rfl) (Nat.le_of_ble_eq_true rfl) dX7_pass_42 ?_
    rw [hpost]
    exact ⟨⟨_, rfl⟩, Or.inl ⟨inB_f c_3, PM_th hH hMM0⟩⟩

set_option maxHeartbeats 4000000 in
set_option maxRecDepth 100000 in
theorem m_change (l : Launch) {E : xE} {base : Nat} {al : Tg → Nat} {w : Tg → Option va_E} {th : Int32} {nf np na nw : Nat} {sg : Nat → Nat → Nat → Int32} {rc : Nat → Bool} {fr : Nat → Int32} (hMM : MMf E al w th nf np na nw sg rc fr) (hI : INV nf np na nw sg rc) {x y : Int32} : xMet l yX7_change cX7_change 4 (some (.int)) ({ frames := 2, cells := 0, slots := 0, locals := 43 } : Room) E base [.ref (al (10, 0, 0)), .int x, .int y] (fun H => xH E base al w H) (fun r H => (∃ v9, r = some (.int v9)) ∧ ((¬ inR x nf ∧ PM E base al w (nI 1) nf np na nw sg rc H) ∨ (inR x nf ∧ ¬ (nI 0 ≤ y ∧ y ≤ nI 255) ∧ PM E base al w (nI 2) nf np na nw sg rc H) ∨ (∃ f, f < nf ∧ x = nI f ∧ (nI 0 ≤ y ∧ y ≤ nI 255) ∧ r = some (.int (nI (bsum (fun a => !rc a && bt (sg 8 a 0) f) na))) ∧ PM E base al w (nI 0) nf np na nw (u3 sg 1 f 0 y) (rcA sg rc na f) H))) := by
  refine xMet.of (by decide +kernel) "DataroomModel" rfl (Nat.le_of_ble_eq_true rfl) ?_
  intro p9 e9 s m9 below meth c9 ls C hin hP hS hl
  have hx := C.hx
  have hb := C.hb
  have hH := hP
  have hl : lv_has ls 4 [(0, .ref (al (10, 0, 0))), (1, .int x), (2, .int y)] := hl
  obtain ⟨post, hpost⟩ : ∃ zz9 : Option Value → Heap → Prop, zz9 = (fun r H => (∃ v9, r = some (.int v9)) ∧ ((¬ inR x nf ∧ PM E base al w (nI 1) nf np na nw sg rc H) ∨ (inR x nf ∧ ¬ (nI 0 ≤ y ∧ y ≤ nI 255) ∧ PM E base al w (nI 2) nf np na nw sg rc H) ∨ (∃ f, f < nf ∧ x = nI f ∧ (nI 0 ≤ y ∧ y ≤ nI 255) ∧ r = some (.int (nI (bsum (fun a => !rc a && bt (sg 8 a 0) f) na))) ∧ PM E base al w (nI 0) nf np na nw (u3 sg 1 f 0 y) (rcA sg rc na f) H))) := ⟨_, rfl⟩
  rw [← hpost]
  generalize hQ : (MQ below (xQ base post) ([.ref (al (10, 0, 0)), .int x, .int y] : List Value).toArray s 0 0 (xA base)) = Q
  have hMM0 := hMM
  obtain ⟨hM, mm3, mm4, mm6, mm7, mm8, mm9, mm11, mm12, mm13, mm14, mm15, mm16, mm17, mm18⟩ := hMM
  have hI0 := hI
  obtain ⟨v16, v6, v150, vnow, vA, vS, vP, vK, vR⟩ := hI
  refine lv_aload_n hx hb dX7_change_0 rfl (lv_at hl 0 rfl) ?_
  refine lv_iload_n hx hb dX7_change_1 rfl (lv_at hl 1 rfl) ?_
  refine x_callV C hH hS (ci := 8) (t := (10, 0, 0)) hM rfl rfl (m_isFile l (E := E) (base := base) hMM0 (x := x)) hH kX7_isFile qw_776 (ws_p (List.mem_of_getElem? (i := 20) rfl) rfl) qw_774  rfl [] rfl hl.1 (Nat.le_of_ble_eq_true rfl) ⟨Nat.le_of_ble_eq_true rfl, Nat.le_of_ble_eq_true rfl⟩ dX7_change_2 ⟨Nat.le_of_ble_eq_true rfl, Nat.le_of_ble_eq_true rfl⟩ (fun r_2 H locs hp_1 hS => ?_)
  obtain ⟨rfl, hH⟩ := hp_1
  refine lv_istore_n (lv' := [(3, .int (ob (inRb x nf))), (0, .ref (al (10, 0, 0))), (1, .int x), (2, .int y)]) hx hb dX7_change_5 rfl hl (by decide) rfl (fun ls hl => ?_)
  refine lv_aload_n hx hb dX7_change_6 rfl (lv_at hl 1 rfl) ?_
  refine lv_iload_n hx hb dX7_change_7 rfl (lv_at hl 0 rfl) ?_
  refine lv_if_ne (tgt := 15) hx hb dX7_change_8 (by decide) (fun c_3 => ?_) (fun c_3 => ?_)
  · skip
    replace c_3 := ob_n.mp c_3
    refine lv_iload_n hx hb dX7_change_15 rfl (lv_at hl 3 rfl) ?_
    refine lv_iconst (v := nI 0) hx hb dX7_change_16 (by decide +kernel) ?_
    refine lv_sipush (v := nI 255) hx hb dX7_change_17 (by decide +kernel) ?_
    refine x_callS C hS (m_in l (E := E) (base := base) (al := al) (w := w) (v := y) (a := nI 0) (b := nI 255)) hH kX7_in qw_764 qw_763  rfl [.ref (al (10, 0, 0))] rfl hl.1 (Nat.le_of_ble_eq_true rfl) ⟨Nat.le_of_ble_eq_true rfl, Nat.le_of_ble_eq_true rfl⟩ dX7_change_20 ⟨Nat.le_of_ble_eq_true rfl, Nat.le_of_ble_eq_true rfl⟩ (fun r_5 H locs hp_4 hS => ?_)
    obtain ⟨rfl, hH⟩ := hp_4
    refine lv_if_eq (tgt := 30) hx hb dX7_change_23 (by decide) (fun c_6 => ?_) (fun c_6 => ?_)
    · skip
      replace c_6 := ob_0.mp c_6
      refine lv_iconst (v := nI 2) hx hb dX7_change_30 (by decide +kernel) ?_
      refine x_callV C hH hS (ci := 8) (t := (10, 0, 0)) hM rfl rfl (m_goes l (E := E) (base := base) hMM0 (k := 2) (by omega)) hH kX7_goesWell qw_768 (ws_p (List.mem_of_getElem? (i := 19) rfl) rfl) qw_766  rfl [] rfl hl.1 (Nat.le_of_ble_eq_true rfl) ⟨Nat.le_of_ble_eq_true rfl, Nat.le_of_ble_eq_true rfl⟩ dX7_change_31 ⟨Nat.le_of_ble_eq_true rfl, Nat.le_of_ble_eq_true rfl⟩ (fun r_8 H locs hp_7 hS => ?_)
      obtain ⟨rfl, hH⟩ := hp_7
      have hMM1 := hMM0.goes (nI 2)
      have hMMx := hMM1
      obtain ⟨hM, mm3, mm4, mm6, mm7, mm8, mm9, mm11, mm12, mm13, mm14, mm15, mm16, mm17, mm18⟩ := hMMx
      refine lv_re (y := nI 0) rfl ?_
      refine lv_if_ne (tgt := 39) hx hb dX7_change_34 (by decide) (fun c_9 => absurd (by decide +kernel) c_9) (fun c_9 => ?_)
      clear c_9
      refine lv_iconst (v := nI 0) hx hb dX7_change_37 (by decide +kernel) ?_
      rw [← hQ]
      refine x_reti C rfl hS (Nat.le_of_ble_eq_true rfl) (Nat.le_of_ble_eq_true rfl) dX7_change_38 ?_
      rw [hpost]
      exact ⟨⟨_, rfl⟩, Or.inr (Or.inl ⟨((inRb_iff (by omega)).mp c_3), inB_f c_6, PM_th hH hMM0⟩)⟩
    · skip
      replace c_6 := ob_n.mp c_6
      refine lv_iconst (v := nI 0) hx hb dX7_change_26 (by decide +kernel) ?_
      refine lv_goto (tgt := 31) hx hb dX7_change_27 (by decide) ?_
      refine x_callV C hH hS (ci := 8) (t := (10, 0, 0)) hM rfl rfl (m_goes l (E := E) (base := base) hMM0 (k := 0) (by omega)) hH kX7_goesWell qw_768 (ws_p (List.mem_of_getElem? (i := 19) rfl) rfl) qw_766  rfl [] rfl hl.1 (Nat.le_of_ble_eq_true rfl) ⟨Nat.le_of_ble_eq_true rfl, Nat.le_of_ble_eq_true rfl⟩ dX7_change_31 ⟨Nat.le_of_ble_eq_true rfl, Nat.le_of_ble_eq_true rfl⟩ (fun r_11 H locs hp_10 hS => ?_)
      obtain ⟨rfl, hH⟩ := hp_10
      have hMM1 := hMM0.goes (nI 0)
      have hMMx := hMM1
      obtain ⟨hM, mm3, mm4, mm6, mm7, mm8, mm9, mm11, mm12, mm13, mm14, mm15, mm16, mm17, mm18⟩ := hMMx
      refine lv_re (y := nI 1) rfl ?_
      obtain ⟨f, hf9, rfl⟩ := (inRb_iff (by omega)).mp c_3
      refine lv_if_ne (tgt := 39) hx hb dX7_change_34 (by decide) (fun c_12 => ?_) (fun c_12 => absurd c_12 (by decide +kernel))
      clear c_12
      refine lv_aload_n hx hb dX7_change_39 rfl (lv_at hl 1 rfl) ?_
      refine x_get C hH (ci := 8) (T := TX7) (N := 19) hM rfl iWX7 3 (by decide) qw_699 rfl rfl dX7_change_40 ?_
      refine lv_iload_n hx hb dX7_change_43 rfl (lv_at hl 2 rfl) ?_
      refine lv_iload_n hx hb dX7_change_44 rfl (lv_at hl 3 rfl) ?_
      refine x_iast C hH hS mm3 (j := f) rfl (by omega) (by omega) dX7_change_45 (fun H locs hH hS => ?_)
      have hM := xu_of (t := (10, 3, 0)) (e := .inl (E.2.1 0, 16, .inl (upd (fun i => sg 1 i 0) f y))) (by simp) hM
      have mm4 := xu_of (t := (10, 3, 0)) (e := .inl (E.2.1 0, 16, .inl (upd (fun i => sg 1 i 0) f y))) (by simp) mm4
      have mm6 := xu_of (t := (10, 3, 0)) (e := .inl (E.2.1 0, 16, .inl (upd (fun i => sg 1 i 0) f y))) (by simp) mm6
      have mm7 := xu_of (t := (10, 3, 0)) (e := .inl (E.2.1 0, 16, .inl (upd (fun i => sg 1 i 0) f y))) (by simp) mm7
      have mm8 := xu_of (t := (10, 3, 0)) (e := .inl (E.2.1 0, 16, .inl (upd (fun i => sg 1 i 0) f y))) (by simp) mm8
      have mm9 := xu_of (t := (10, 3, 0)) (e := .inl (E.2.1 0, 16, .inl (upd (fun i => sg 1 i 0) f y))) (by simp) mm9
      have mm11 := xu_of (t := (10, 3, 0)) (e := .inl (E.2.1 0, 16, .inl (upd (fun i => sg 1 i 0) f y))) (by simp) mm11
      have mm12 := xu_of (t := (10, 3, 0)) (e := .inl (E.2.1 0, 16, .inl (upd (fun i => sg 1 i 0) f y))) (by simp) mm12
      have mm13 := xu_of (t := (10, 3, 0)) (e := .inl (E.2.1 0, 16, .inl (upd (fun i => sg 1 i 0) f y))) (by simp) mm13
      have mm14 := xu_of (t := (10, 3, 0)) (e := .inl (E.2.1 0, 16, .inl (upd (fun i => sg 1 i 0) f y))) (by simp) mm14
      have mm15 := xu_of (t := (10, 3, 0)) (e := .inl (E.2.1 0, 16, .inl (upd (fun i => sg 1 i 0) f y))) (by simp) mm15
      have mm16 := xu_of (t := (10, 3, 0)) (e := .inl (E.2.1 0, 16, .inl (upd (fun i => sg 1 i 0) f y))) (by simp) mm16
      have mm17 := xu_of (t := (10, 3, 0)) (e := .inl (E.2.1 0, 16, .inl (upd (fun i => sg 1 i 0) f y))) (by simp) mm17
      have mm18 := xu_of (t := (10, 3, 0)) (e := .inl (E.2.1 0, 16, .inl (upd (fun i => sg 1 i 0) f y))) (by simp) mm18
      have mm3 : (xu (xu w (10, 0, 0) (.inr (8, [.int (nI 0), .int (nI nw), .int (nI nf), .ref (al (10, 3, 0)), .ref (al (10, 4, 0)), .int (nI np), .ref (al (10, 6, 0)), .ref (al (10, 7, 0)), .ref (al (10, 8, 0)), .ref (al (10, 9, 0)), .int (nI na), .ref (al (10, 11, 0)), .ref (al (10, 12, 0)), .ref (al (10, 13, 0)), .ref (al (10, 14, 0)), .ref (al (10, 15, 0)), .ref (al (10, 16, 0)), .ref (al (10, 17, 0)), .ref (al (10, 18, 0))]))) (10, 3, 0) (.inl (E.2.1 0, 16, .inl (upd (fun i => sg 1 i 0) f y)))) (10, 3, 0) = some (.inl (E.2.1 0, 16, .inl (upd (fun i => sg 1 i 0) f y))) := xu_self _ _ _
      have hMM2 := hMM1.s1 (f := f) (y := y)
      have hI2 : INV nf np na nw (u3 sg 1 f 0 y) rc := INV_k1 hI0
      refine lv_aload_n hx hb dX7_change_46 rfl (lv_at hl 1 rfl) ?_
      refine lv_iload_n hx hb dX7_change_47 rfl (lv_at hl 2 rfl) ?_
      refine lv_iconst (v := (-1)) hx hb dX7_change_48 (by decide +kernel) ?_
      refine x_callV C hH hS (ci := 8) (t := (10, 0, 0)) hM rfl rfl (m_recall l (E := E) (base := base) hMM2 hI2 (f := f) (pp := (-1)) (by omega)) hH kX7_recall qw_780 (ws_p (List.mem_of_getElem? (i := 21) rfl) rfl) qw_778  rfl [] rfl hl.1 (Nat.le_of_ble_eq_true rfl) ⟨Nat.le_of_ble_eq_true rfl, Nat.le_of_ble_eq_true rfl⟩ dX7_change_49 ⟨Nat.le_of_ble_eq_true rfl, Nat.le_of_ble_eq_true rfl⟩ (fun r_14 H locs hp_13 hS => ?_)
      obtain ⟨rfl, hH⟩ := hp_13
      rw [← hQ]
      refine x_reti C rfl hS (Nat.le_of_ble_eq_true rfl) (Nat.le_of_ble_eq_true rfl) dX7_change_52 ?_
      rw [hpost]
      exact ⟨⟨_, rfl⟩, Or.inr (Or.inr ⟨f, hf9, rfl, inB_t c_6, by rw [rkP_all], PM_of hH (by rw [← rcK_all]; exact hMM2.rc _) (fun t ht => by rw [xu_ne (fun e => ht (by rw [e])), xu_ne (fun e => ht (by rw [e])), xu_ne (fun e => ht (by rw [e]))])⟩)⟩
  · skip
    replace c_3 := ob_0.mp c_3
    refine lv_iconst (v := nI 1) hx hb dX7_change_11 (by decide +kernel) ?_
    refine lv_goto (tgt := 31) hx hb dX7_change_12 (by decide) ?_
    refine x_callV C hH hS (ci := 8) (t := (10, 0, 0)) hM rfl rfl (m_goes l (E := E) (base := base) hMM0 (k := 1) (by omega)) hH kX7_goesWell qw_768 (ws_p (List.mem_of_getElem? (i := 19) rfl) rfl) qw_766  rfl [] rfl hl.1 (Nat.le_of_ble_eq_true rfl) ⟨Nat.le_of_ble_eq_true rfl, Nat.le_of_ble_eq_true rfl⟩ dX7_change_31 ⟨Nat.le_of_ble_eq_true rfl, Nat.le_of_ble_eq_true rfl⟩ (fun r_16 H locs hp_15 hS => ?_)
    obtain ⟨rfl, hH⟩ := hp_15
    have hMM1 := hMM0.goes (nI 1)
    have hMMx := hMM1
    obtain ⟨hM, mm3, mm4, mm6, mm7, mm8, mm9, mm11, mm12, mm13, mm14, mm15, mm16, mm17, mm18⟩ := hMMx
    refine lv_re (y := nI 0) rfl ?_
    refine lv_if_ne (tgt := 39) hx hb dX7_change_34 (by decide) (fun c_17 => absurd (by decide +kernel) c_17) (fun c_17 => ?_)
    clear c_17
    refine lv_iconst (v := nI 0) hx hb dX7_change_37 (by decide +kernel) ?_
    rw [← hQ]
    refine x_reti C rfl hS (Nat.le_of_ble_eq_true rfl) (Nat.le_of_ble_eq_true rfl) dX7_change_38 ?_
    rw [hpost]
    exact ⟨⟨_, rfl⟩, Or.inl ⟨(fun q => by rw [(inRb_iff (by omega)).mpr q] at c_3; cases c_3), PM_th hH hMM0⟩⟩
