/-! sums of spans -/
def lfF (f g : Nat → Int32) : Nat → (Nat → Int32)
  | 0 => f
  | i + 1 => lrF (lfF f g i) 16 (g i)
def shF (xs : Int32) (G : Nat → Nat → Int32) : Nat → (Nat → Int32)
  | 0 => fun _ => 0
  | p + 1 => if bt xs p then lfF (shF xs G p) (G p) 16 else shF xs G p
theorem x_yy (y z : Int32) : (y ^^^ z) ^^^ z = y := by rw [xor_a, xor_x, xor_0]
theorem x_0y (y : Int32) : 0 ^^^ y = y := by rw [xor_c, xor_0]
theorem sp_0 {c : Nat → Bool} {S : Nat → Int32} : ∀ n, spn c S n 0
  | 0 => rfl
  | n + 1 => Or.inl (sp_0 n)
theorem sp_x {c : Nat → Bool} {S : Nat → Int32} : ∀ (n : Nat) (y z : Int32), spn c S n y → spn c S n z → spn c S n (y ^^^ z)
  | 0, y, z, h, k => by
    have h1 : y = 0 := h
    have h2 : z = 0 := k
    rw [h1, h2]; exact xor_x 0
  | n + 1, y, z, h, k => by
    rcases h with h | ⟨hc, h⟩
    · rcases k with k | ⟨kc, k⟩
      · exact Or.inl (sp_x n _ _ h k)
      · refine Or.inr ⟨kc, ?_⟩
        rw [xor_a]; exact sp_x n _ _ h k
    · rcases k with k | ⟨kc, k⟩
      · refine Or.inr ⟨hc, ?_⟩
        have e : (y ^^^ z) ^^^ S n = (y ^^^ S n) ^^^ z := by rw [xor_a, xor_c z, ← xor_a]
        rw [e]; exact sp_x n _ _ h k
      · left
        have e : y ^^^ z = (y ^^^ S n) ^^^ (z ^^^ S n) := by rw [xor_m, xor_x, xor_0]
        rw [e]; exact sp_x n _ _ h k
theorem sp_mono {c d : Nat → Bool} {S : Nat → Int32} : ∀ (n : Nat) (y : Int32), (∀ a, a < n → c a = true → d a = true) → spn c S n y → spn d S n y
  | 0, _, _, h => h
  | n + 1, y, hm, h => by
    rcases h with h | ⟨hc, h⟩
    · exact Or.inl (sp_mono n y (fun a ha => hm a (by omega)) h)
    · exact Or.inr ⟨hm n (Nat.lt_succ_self n) hc, sp_mono n _ (fun a ha => hm a (by omega)) h⟩
theorem sp_u {c d e : Nat → Bool} {S : Nat → Int32} : ∀ (n : Nat) (y : Int32), (∀ a, a < n → e a = (c a || d a)) → (spn e S n y ↔ ∃ z, spn c S n z ∧ spn d S n (y ^^^ z))
  | n, y, he => by
    constructor
    · intro h
      induction n generalizing y with
      | zero => exact ⟨0, rfl, by rw [xor_0]; exact h⟩
      | succ n ih =>
        rcases h with h | ⟨hc, h⟩
        · obtain ⟨z, h1, h2⟩ := ih y (fun a ha => he a (by omega)) h
          exact ⟨z, Or.inl h1, Or.inl h2⟩
        · obtain ⟨z, h1, h2⟩ := ih _ (fun a ha => he a (by omega)) h
          rw [he n (Nat.lt_succ_self n), Bool.or_eq_true] at hc
          have e1 : (y ^^^ S n) ^^^ z = (y ^^^ z) ^^^ S n := by rw [xor_a, xor_c (S n), ← xor_a]
          rw [e1] at h2
          rcases hc with hc | hc
          · refine ⟨z ^^^ S n, Or.inr ⟨hc, by rw [x_yy]; exact h1⟩, Or.inl ?_⟩
            rw [← xor_a]; exact h2
          · exact ⟨z, Or.inl h1, Or.inr ⟨hc, h2⟩⟩
    · rintro ⟨z, h1, h2⟩
      have e1 : y = z ^^^ (y ^^^ z) := by rw [xor_c y, ← xor_a, xor_x, x_0y]
      rw [e1]
      exact sp_x n _ _ (sp_mono n _ (fun a ha hc => by rw [he a ha, hc]; rfl) h1) (sp_mono n _ (fun a ha hc => by rw [he a ha, hc]; simp) h2)
/-- the rows g below i -/
def gcut (g : Nat → Int32) (i : Nat) : Nat → Int32 := fun j => if j < i then g j else 0
theorem red_cut {g : Nat → Int32} {i : Nat} : ∀ (n : Nat) (z : Int32), i ≤ n → red (gcut g i) n z = red g i z
  | 0, z, h => by rw [show i = 0 by omega]; rfl
  | n + 1, z, h => by
    by_cases e : i = n + 1
    · subst e; exact red_cong _ _ (fun j hj => if_pos hj)
    · show red (gcut g i) n (if bt z n then z ^^^ gcut g i n else z) = _
      rw [show gcut g i n = 0 from if_neg (by omega), xor_0, ite_self]
      exact red_cut n z (by omega)
theorem lf_ok {f g : Nat → Int32} (hF : Ech f) (hG : Ech g) : ∀ (i : Nat), i ≤ 16 → Ech (lfF f g i) ∧ ∀ y, red (lfF f g i) 16 y = 0 ↔ ∃ z, red g i z = 0 ∧ red f 16 (y ^^^ z) = 0
  | 0, _ => ⟨hF, fun y => ⟨fun h => ⟨0, rfl, by rw [xor_0]; exact h⟩, fun ⟨z, h1, h2⟩ => by
      have e : z = 0 := h1
      rw [e, xor_0] at h2; exact h2⟩⟩
  | i + 1, hi => by
    obtain ⟨h1, h2⟩ := lf_ok hF hG i (by omega)
    have hs : sml (i + 1) (g i) := by
      by_cases h0 : g i = 0
      · rw [h0]; exact sml_z _
      · exact fun j hj => (hG i (by omega) h0).2 j (by omega)
    have hs' : sml 16 (g i) := fun j hj => hs j (by omega)
    refine ⟨lr_ech h1 16 _ (Nat.le_refl _) hs', fun y => ?_⟩
    show red (lrF _ 16 _) 16 y = 0 ↔ _
    rw [lr_ker h1 16 _ (Nat.le_refl _) hs', h2, h2]
    have key : ∀ z, red g (i + 1) z = 0 ↔ (red g i z = 0 ∨ red g i (z ^^^ g i) = 0) := by
      intro z
      show red g i (if bt z i then z ^^^ g i else z) = 0 ↔ _
      by_cases h0 : g i = 0
      · rw [h0, xor_0, ite_self]; exact (or_self_iff).symm
      · have hb := (hG i (by omega) h0).1
        have hz : ∀ x, red g i x = 0 → bt x i = false := fun x hx => by rw [← red_hi hG i x i (by omega) (Nat.le_refl _), hx, b_0]
        cases hzi : bt z i with
        | true =>
          rw [if_pos rfl]
          exact ⟨Or.inr, fun q => q.elim (fun q => by rw [hz z q] at hzi; cases hzi) id⟩
        | false =>
          rw [if_neg (by simp)]
          refine ⟨Or.inl, fun q => q.elim id (fun q => ?_)⟩
          have := hz _ q
          rw [b_xor, hzi, hb] at this
          cases this
    constructor
    · rintro (⟨z, a, b⟩ | ⟨z, a, b⟩)
      · exact ⟨z, (key z).mpr (Or.inl a), b⟩
      · refine ⟨z ^^^ g i, (key _).mpr (Or.inr (by rw [x_yy]; exact a)), ?_⟩
        rw [← xor_a]
        have e1 : (y ^^^ g i) ^^^ z = (y ^^^ z) ^^^ g i := by rw [xor_a, xor_c (g i), ← xor_a]
        rw [← e1]; exact b
    · rintro ⟨z, a, b⟩
      rcases (key z).mp a with a | a
      · exact Or.inl ⟨z, a, b⟩
      · refine Or.inr ⟨z ^^^ g i, a, ?_⟩
        have e1 : (y ^^^ g i) ^^^ (z ^^^ g i) = y ^^^ z := by rw [xor_m, xor_x, xor_0]
        rw [e1]; exact b
theorem sh_ok {xs : Int32} {D : Nat → Nat → Bool} {S : Nat → Int32} {n : Nat} (h : ∀ p a, a < n → D p a = true → sml 16 (S a)) : ∀ P, Ech (shF xs (fun p => rws (D p) S n) P) ∧ ∀ y, red (shF xs (fun p => rws (D p) S n) P) 16 y = 0 ↔ spn (fun a => anyB (fun p => bt xs p && D p a) P) S n y
  | 0 => by
    refine ⟨ech_0, fun y => ?_⟩
    show red (fun _ => 0) 16 y = 0 ↔ _
    rw [red_0]
    constructor
    · intro e; rw [e]; exact sp_0 n
    · intro q
      have hz : ∀ (k : Nat) (y : Int32), spn (fun _ => false) S k y → y = 0 := by
        intro k
        induction k with
        | zero => intro y q; exact q
        | succ k ih => intro y q; exact q.elim (ih y) (fun q => by cases q.1)
      exact hz n y q
  | P + 1 => by
    obtain ⟨h1, h2⟩ := sh_ok (xs := xs) h P
    show Ech (if bt xs P then _ else _) ∧ ∀ y, red (if bt xs P then _ else _) 16 y = 0 ↔ _
    cases hb : bt xs P with
    | true =>
      obtain ⟨g1, g2⟩ := rws_ok (c := D P) (S := S) n (fun a ha hc => h P a ha hc)
      obtain ⟨l1, l2⟩ := lf_ok h1 g1 16 (Nat.le_refl _)
      rw [if_pos rfl]
      refine ⟨l1, fun y => ?_⟩
      rw [l2, sp_u (c := D P) (d := fun a => anyB (fun p => bt xs p && D p a) P) n y (fun a ha => by show (_ || (bt xs P && D P a)) = _; rw [hb, Bool.true_and, Bool.or_comm])]
      exact ⟨fun ⟨z, a, b⟩ => ⟨z, (g2 z).mp a, (h2 _).mp b⟩, fun ⟨z, a, b⟩ => ⟨z, (g2 z).mpr a, (h2 _).mpr b⟩⟩
    | false =>
      rw [if_neg (by simp)]
      refine ⟨h1, fun y => ?_⟩
      rw [h2]
      have e : (fun a => anyB (fun p => bt xs p && D p a) (P + 1)) = fun a => anyB (fun p => bt xs p && D p a) P := by
        funext a
        show (_ || (bt xs P && D P a)) = _
        rw [hb, Bool.false_and, Bool.or_false]
      rw [e]
theorem xu_22 {w : Tg → Option va_E} {t u : Tg} {a b a' b' : va_E} (h : t ≠ u) : xu (xu (xu (xu w u a) t b) u a') t b' = xu (xu w u a') t b' := by
  rw [xu_cm h, xu_uu, xu_uu]
