/-! what is known: the kernel of 'red' is the span of what was learned, for rows with leading files of their own -/
theorem bx_ne {x y : Int32} {i : Nat} (h : bt x i ≠ bt y i) : x ≠ y := fun e => h (by rw [e])
theorem xor_0 (x : Int32) : x ^^^ 0 = x := by
  apply b_ext; intro i _; rw [b_xor, b_0]; simp
theorem xor_x (x : Int32) : x ^^^ x = 0 := by
  apply b_ext; intro i _; rw [b_xor, b_0]; simp
theorem xor_c (x y : Int32) : x ^^^ y = y ^^^ x := by
  apply b_ext; intro i _; rw [b_xor, b_xor, Bool.xor_comm]
theorem xor_a (x y z : Int32) : (x ^^^ y) ^^^ z = x ^^^ (y ^^^ z) := by
  apply b_ext; intro i _; rw [b_xor, b_xor, b_xor, b_xor, Bool.xor_assoc]
theorem xor_e {x y : Int32} : x ^^^ y = 0 ↔ x = y := by
  constructor
  · intro h
    have : (x ^^^ y) ^^^ y = 0 ^^^ y := by rw [h]
    rw [xor_a, xor_x, xor_0, xor_c, xor_0] at this
    exact this
  · intro h; rw [h, xor_x]
theorem xor_m (a b c d : Int32) : (a ^^^ b) ^^^ (c ^^^ d) = (a ^^^ c) ^^^ (b ^^^ d) := by
  apply b_ext; intro i _; simp only [b_xor]
  cases bt a i <;> cases bt b i <;> cases bt c i <;> cases bt d i <;> rfl
theorem red_z (f : Nat → Int32) : ∀ n, red f n 0 = 0
  | 0 => rfl
  | n + 1 => by show red f n (if bt 0 n then _ else _) = 0; rw [b_0]; exact red_z f n
theorem red_x (f : Nat → Int32) : ∀ (n : Nat) (x y : Int32), red f n (x ^^^ y) = red f n x ^^^ red f n y
  | 0, _, _ => rfl
  | n + 1, x, y => by
    show red f n (if bt (x ^^^ y) n then _ else _) = red f n (if bt x n then _ else _) ^^^ red f n (if bt y n then _ else _)
    rw [← red_x f n]
    congr 1
    rw [b_xor]
    cases bt x n <;> cases bt y n
    · rfl
    · show (x ^^^ y) ^^^ f n = x ^^^ (y ^^^ f n); exact xor_a _ _ _
    · show (x ^^^ y) ^^^ f n = (x ^^^ f n) ^^^ y; rw [xor_a, xor_c y, ← xor_a]
    · show x ^^^ y = (x ^^^ f n) ^^^ (y ^^^ f n); rw [xor_m, xor_x, xor_0]
theorem red_cong {f g : Nat → Int32} : ∀ (n : Nat) (x : Int32), (∀ j, j < n → f j = g j) → red f n x = red g n x
  | 0, _, _ => rfl
  | n + 1, x, h => by
    show red f n (if bt x n then x ^^^ f n else x) = red g n (if bt x n then x ^^^ g n else x)
    rw [h n (Nat.lt_succ_self n)]
    exact red_cong n _ (fun j hj => h j (Nat.lt_succ_of_lt hj))
/-- each row that isn't empty leads with its own place -/
def Ech (f : Nat → Int32) : Prop := ∀ k, k < 16 → f k ≠ 0 → bt (f k) k = true ∧ ∀ j, k < j → bt (f k) j = false
/-- no place from n on -/
def sml (n : Nat) (x : Int32) : Prop := ∀ j, n ≤ j → bt x j = false
theorem sml_0 {x : Int32} (h : sml 0 x) : x = 0 := b_ext fun i _ => by rw [h i (Nat.zero_le i), b_0]
theorem sml_x {n : Nat} {x y : Int32} (h : sml n x) (k : sml n y) : sml n (x ^^^ y) := fun j hj => by rw [b_xor, h j hj, k j hj]; rfl
theorem sml_z (n : Nat) : sml n 0 := fun j _ => b_0 j
theorem red_hi {f : Nat → Int32} (hE : Ech f) : ∀ (n : Nat) (x : Int32) (m : Nat), n ≤ 16 → n ≤ m → bt (red f n x) m = bt x m
  | 0, _, _, _, _ => rfl
  | n + 1, x, m, hn, hm => by
    show bt (red f n (if bt x n then x ^^^ f n else x)) m = bt x m
    rw [red_hi hE n _ m (by omega) (by omega)]
    cases bt x n
    · rfl
    · show bt (x ^^^ f n) m = bt x m
      rw [b_xor]
      by_cases h : f n = 0
      · rw [h, b_0]; simp
      · rw [(hE n (by omega) h).2 m (by omega)]; simp
theorem red_bit {f : Nat → Int32} (hE : Ech f) {k : Nat} (hk : f k ≠ 0) : ∀ (n : Nat) (x : Int32), n ≤ 16 → k < n → bt (red f n x) k = false
  | 0, _, _, h => absurd h (Nat.not_lt_zero k)
  | n + 1, x, hn, h => by
    show bt (red f n (if bt x n then x ^^^ f n else x)) k = false
    rcases Nat.lt_or_ge k n with q | q
    · exact red_bit hE hk n _ (by omega) q
    · have e : n = k := by omega
      subst e
      rw [red_hi hE n _ n (by omega) (Nat.le_refl n)]
      cases hx : bt x n
      · exact hx
      · show bt (x ^^^ f n) n = false
        rw [b_xor, hx, (hE n (by omega) hk).1]; rfl
theorem lrF_hi {f : Nat → Int32} : ∀ (n : Nat) (x : Int32) (m : Nat), n ≤ m → lrF f n x m = f m
  | 0, _, _, _ => rfl
  | n + 1, x, m, hm => by
    show (if bt x n then (if f n = 0 then upd f n x else lrF f n (x ^^^ f n)) else lrF f n x) m = f m
    split
    · split
      · show (if m = n then x else f m) = f m
        rw [if_neg (by omega)]
      · exact lrF_hi n _ m (by omega)
    · exact lrF_hi n _ m (by omega)
theorem sml_dn {n : Nat} {x : Int32} (h : sml (n + 1) x) (hb : bt x n = false) : sml n x := fun j hj => by
  rcases Nat.lt_or_ge n j with q | q
  · exact h j q
  · rw [show j = n by omega]; exact hb
theorem lr_ech {f : Nat → Int32} (hE : Ech f) : ∀ (n : Nat) (x : Int32), n ≤ 16 → sml n x → Ech (lrF f n x)
  | 0, _, _, _ => hE
  | n + 1, x, hn, hs => by
    show Ech (if bt x n then (if f n = 0 then upd f n x else lrF f n (x ^^^ f n)) else lrF f n x)
    by_cases hb : bt x n = true
    · rw [if_pos hb]
      by_cases h0 : f n = 0
      · rw [if_pos h0]
        intro k hk hne
        by_cases e : k = n
        · subst e
          have : upd f k x k = x := if_pos rfl
          rw [this]
          exact ⟨hb, fun j hj => hs j hj⟩
        · have : upd f n x k = f k := if_neg e
          rw [this] at hne ⊢
          exact hE k hk hne
      · rw [if_neg h0]
        refine lr_ech hE n _ (by omega) (sml_dn (sml_x hs fun j hj => (hE n (by omega) h0).2 j hj) ?_)
        rw [b_xor, hb, (hE n (by omega) h0).1]; rfl
    · rw [if_neg hb]
      exact lr_ech hE n _ (by omega) (sml_dn hs (by cases h : bt x n; rfl; exact absurd h hb))
theorem lr_ker {f : Nat → Int32} (hE : Ech f) : ∀ (n : Nat) (x : Int32), n ≤ 16 → sml n x → ∀ y, red (lrF f n x) n y = 0 ↔ red f n y = 0 ∨ red f n (y ^^^ x) = 0
  | 0, x, _, hs, y => by rw [sml_0 hs, xor_0]; exact (or_self_iff).symm
  | n + 1, x, hn, hs, y => by
    have hbx : ∀ b, bt x n = b → bt (y ^^^ x) n = (bt y n ^^ b) := fun b hb => by rw [b_xor, hb]
    by_cases hb : bt x n = true
    · by_cases h0 : f n = 0
      · have e1 : lrF f (n + 1) x = upd f n x := by show (if _ then _ else _) = _; rw [if_pos hb, if_pos h0]
        rw [e1]
        have un : upd f n x n = x := if_pos rfl
        have uc : ∀ z, red (upd f n x) n z = red f n z := fun z => red_cong n z (fun j hj => if_neg (by omega))
        show red (upd f n x) n (if bt y n then y ^^^ upd f n x n else y) = 0 ↔ red f n (if bt y n then y ^^^ f n else y) = 0 ∨ red f n (if bt (y ^^^ x) n then (y ^^^ x) ^^^ f n else y ^^^ x) = 0
        rw [uc, un, h0, xor_0, xor_0, ite_self, ite_self]
        have hn1 : ∀ z, bt z n = true → red f n z ≠ 0 := fun z hz => bx_ne (i := n) (by rw [red_hi hE n z n (by omega) (Nat.le_refl n), hz, b_0]; decide)
        cases hy : bt y n
        · have h1 : bt (y ^^^ x) n = true := by rw [hbx _ hb, hy]; rfl
          simp [hn1 _ h1]
        · simp [hn1 _ hy]
      · have e1 : lrF f (n + 1) x = lrF f n (x ^^^ f n) := by show (if _ then _ else _) = _; rw [if_pos hb, if_neg h0]
        rw [e1]
        have s1 : sml n (x ^^^ f n) := sml_dn (sml_x hs fun j hj => (hE n (by omega) h0).2 j hj) (by rw [b_xor, hb, (hE n (by omega) h0).1]; rfl)
        show red (lrF f n (x ^^^ f n)) n (if bt y n then y ^^^ lrF f n (x ^^^ f n) n else y) = 0 ↔ red f n (if bt y n then y ^^^ f n else y) = 0 ∨ red f n (if bt (y ^^^ x) n then (y ^^^ x) ^^^ f n else y ^^^ x) = 0
        rw [lrF_hi n _ n (Nat.le_refl n), lr_ker hE n _ (by omega) s1]
        have h2 : (if bt (y ^^^ x) n then (y ^^^ x) ^^^ f n else y ^^^ x) = (if bt y n then y ^^^ f n else y) ^^^ (x ^^^ f n) := by
          rw [hbx _ hb]
          cases hy : bt y n
          · show (y ^^^ x) ^^^ f n = y ^^^ (x ^^^ f n); exact xor_a _ _ _
          · show y ^^^ x = (y ^^^ f n) ^^^ (x ^^^ f n); rw [xor_m, xor_x, xor_0]
        rw [h2]
    · have hbf : bt x n = false := by cases h : bt x n; rfl; exact absurd h hb
      have e1 : lrF f (n + 1) x = lrF f n x := by show (if _ then _ else _) = _; rw [if_neg hb]
      rw [e1]
      show red (lrF f n x) n (if bt y n then y ^^^ lrF f n x n else y) = 0 ↔ red f n (if bt y n then y ^^^ f n else y) = 0 ∨ red f n (if bt (y ^^^ x) n then (y ^^^ x) ^^^ f n else y ^^^ x) = 0
      rw [lrF_hi n _ n (Nat.le_refl n), lr_ker hE n _ (by omega) (sml_dn hs hbf)]
      have h2 : (if bt (y ^^^ x) n then (y ^^^ x) ^^^ f n else y ^^^ x) = (if bt y n then y ^^^ f n else y) ^^^ x := by
        rw [hbx _ hbf]
        cases hy : bt y n
        · rfl
        · show (y ^^^ x) ^^^ f n = (y ^^^ f n) ^^^ x; rw [xor_a, xor_c x, ← xor_a]
      rw [h2]
theorem lr_gr {f : Nat → Int32} (hE : Ech f) : ∀ (n : Nat) (x : Int32), n ≤ 16 → sml n x → lrG f n x = if red f n x = 0 then 0 else 1
  | 0, x, _, hs => by rw [sml_0 hs]; rfl
  | n + 1, x, hn, hs => by
    show (if bt x n then (if f n = 0 then 1 else lrG f n (x ^^^ f n)) else lrG f n x) = if red f n (if bt x n then x ^^^ f n else x) = 0 then 0 else 1
    by_cases hb : bt x n = true
    · rw [if_pos hb, if_pos hb]
      by_cases h0 : f n = 0
      · rw [if_pos h0, if_neg]
        rw [h0, xor_0]
        exact bx_ne (i := n) (by rw [red_hi hE n x n (by omega) (Nat.le_refl n), hb, b_0]; decide)
      · rw [if_neg h0]
        exact lr_gr hE n _ (by omega) (sml_dn (sml_x hs fun j hj => (hE n (by omega) h0).2 j hj) (by rw [b_xor, hb, (hE n (by omega) h0).1]; rfl))
    · rw [if_neg hb, if_neg hb]
      exact lr_gr hE n _ (by omega) (sml_dn hs (by cases h : bt x n; rfl; exact absurd h hb))
/-- the reference's rows: what is left is put at its highest place -/
def hig (x : Int32) : Nat → Int32
  | 0 => -1
  | n + 1 => if bt x n then nI n else hig x n
def hiN (x : Int32) : Nat → Nat
  | 0 => 0
  | n + 1 => if bt x n then n else hiN x n
theorem hi_eq {x : Int32} : ∀ (n : Nat), ¬ sml 0 x → sml n x → hig x n = nI (hiN x n) ∧ hiN x n < n ∧ bt x (hiN x n) = true ∧ sml (hiN x n + 1) x
  | 0, h, hs => absurd hs h
  | n + 1, h, hs => by
    show (if bt x n then nI n else hig x n) = nI (if bt x n then n else hiN x n) ∧ (if bt x n then n else hiN x n) < n + 1 ∧ bt x (if bt x n then n else hiN x n) = true ∧ sml ((if bt x n then n else hiN x n) + 1) x
    by_cases hb : bt x n = true
    · rw [if_pos hb, if_pos hb]; exact ⟨rfl, Nat.lt_succ_self n, hb, hs⟩
    · rw [if_neg hb, if_neg hb]
      obtain ⟨a, b, c, d⟩ := hi_eq n h (sml_dn hs (by cases h : bt x n; rfl; exact absurd h hb))
      exact ⟨a, by omega, c, d⟩
def mlF (f : Nat → Int32) (x : Int32) : Nat → Int32 := if red f 16 x = 0 then f else upd f (hiN (red f 16 x) 16) (red f 16 x)
theorem red_fix {f : Nat → Int32} (hE : Ech f) (x : Int32) : ∀ n, n ≤ 16 → red f n (red f 16 x) = red f 16 x
  | 0, _ => rfl
  | n + 1, hn => by
    show red f n (if bt (red f 16 x) n then _ else _) = _
    by_cases h0 : f n = 0
    · rw [h0, xor_0, ite_self]; exact red_fix hE x n (by omega)
    · rw [red_bit hE h0 16 x (Nat.le_refl _) (by omega)]; exact red_fix hE x n (by omega)
theorem red_sml {f : Nat → Int32} (hE : Ech f) {x : Int32} (hs : sml 16 x) (n : Nat) (hn : n ≤ 16) : sml 16 (red f n x) := fun j hj => by
  rw [red_hi hE n x j hn (by omega)]; exact hs j hj
theorem ml_ker {f : Nat → Int32} (hE : Ech f) {x : Int32} (hs : sml 16 x) : Ech (mlF f x) ∧ ∀ y, red (mlF f x) 16 y = 0 ↔ red f 16 y = 0 ∨ red f 16 (y ^^^ x) = 0 := by
  unfold mlF
  by_cases h0 : red f 16 x = 0
  · rw [if_pos h0]
    exact ⟨hE, fun y => by rw [red_x, h0, xor_0]; exact (or_self_iff).symm⟩
  · rw [if_neg h0]
    have hr := red_sml hE hs 16 (Nat.le_refl _)
    have hrf := fun n hn => red_fix hE x n hn
    have hpv : ∀ k, k < 16 → f k ≠ 0 → bt (red f 16 x) k = false := fun k hk q => red_bit hE q 16 x (Nat.le_refl _) hk
    obtain ⟨L, hL⟩ : ∃ L, L = red f 16 x := ⟨_, rfl⟩
    rw [← hL] at h0 hr hrf hpv ⊢
    have hn0 : ¬ sml 0 L := fun q => h0 (sml_0 q)
    obtain ⟨-, hk, hbk, hsk⟩ := hi_eq 16 hn0 hr
    generalize hiN L 16 = k at hk hbk hsk ⊢
    have hfk : f k = 0 := Classical.byContradiction fun q => by rw [hpv k hk q] at hbk; cases hbk
    constructor
    · intro j hj hne
      by_cases e : j = k
      · subst e
        have : upd f j L j = L := if_pos rfl
        rw [this]
        exact ⟨hbk, fun i hi => hsk i hi⟩
      · have : upd f k L j = f j := if_neg e
        rw [this] at hne ⊢
        exact hE j hj hne
    · intro y
      have main : ∀ n, k < n → n ≤ 16 → ∀ y, red (upd f k L) n y = if bt (red f n y) k then red f n y ^^^ L else red f n y := by
        intro n
        induction n with
        | zero => intro h; exact absurd h (Nat.not_lt_zero k)
        | succ n ih =>
          intro hkn hn y
          rcases Nat.lt_or_ge k n with q | q
          · show red (upd f k L) n (if bt y n then y ^^^ upd f k L n else y) = if bt (red f n (if bt y n then y ^^^ f n else y)) k then red f n (if bt y n then y ^^^ f n else y) ^^^ L else red f n (if bt y n then y ^^^ f n else y)
            have un : upd f k L n = f n := if_neg (by omega)
            rw [un]
            exact ih q (by omega) _
          · have e : n = k := by omega
            subst e
            show red (upd f n L) n (if bt y n then y ^^^ upd f n L n else y) = if bt (red f n (if bt y n then y ^^^ f n else y)) n then red f n (if bt y n then y ^^^ f n else y) ^^^ L else red f n (if bt y n then y ^^^ f n else y)
            have un : upd f n L n = L := if_pos rfl
            rw [un, hfk, xor_0, ite_self, red_hi hE n y n (by omega) (Nat.le_refl n)]
            have uc : ∀ z, red (upd f n L) n z = red f n z := fun z => red_cong n z (fun j hj => if_neg (by omega))
            rw [uc]
            cases bt y n
            · rfl
            · show red f n (y ^^^ L) = red f n y ^^^ L
              rw [red_x, hrf n (by omega)]
      rw [main 16 hk (Nat.le_refl _) y, red_x, ← hL, xor_e]
      cases hb : bt (red f 16 y) k
      · constructor
        · intro q; exact Or.inl (by simpa using q)
        · rintro (q | q)
          · simpa using q
          · rw [q, hbk] at hb; cases hb
      · constructor
        · intro q; exact Or.inr (xor_e.mp (by simpa using q))
        · rintro (q | q)
          · rw [q, b_0] at hb; cases hb
          · simp [q, xor_x]
/-! what answers tell, one after another: c says which count, S their sets -/
def rws (c : Nat → Bool) (S : Nat → Int32) : Nat → (Nat → Int32)
  | 0 => fun _ => 0
  | a + 1 => if c a then lrF (rws c S a) 16 (S a) else rws c S a
def cnt (c : Nat → Bool) (S : Nat → Int32) : Nat → Nat
  | 0 => 0
  | a + 1 => cnt c S a + (if c a then lrG (rws c S a) 16 (S a) else 0)
def mrw (c : Nat → Bool) (S : Nat → Int32) : Nat → (Nat → Int32)
  | 0 => fun _ => 0
  | a + 1 => if c a then mlF (mrw c S a) (S a) else mrw c S a
def mct (c : Nat → Bool) (S : Nat → Int32) : Nat → Nat
  | 0 => 0
  | a + 1 => mct c S a + (if c a && !decide (red (mrw c S a) 16 (S a) = 0) then 1 else 0)
def spn (c : Nat → Bool) (S : Nat → Int32) : Nat → Int32 → Prop
  | 0, y => y = 0
  | a + 1, y => spn c S a y ∨ (c a = true ∧ spn c S a (y ^^^ S a))
theorem red_0 : ∀ (n : Nat) (x : Int32), red (fun _ => 0) n x = x
  | 0, _ => rfl
  | n + 1, x => by show red _ n (if bt x n then x ^^^ 0 else x) = x; rw [xor_0, ite_self]; exact red_0 n x
theorem ech_0 : Ech (fun _ => 0) := fun _ _ h => absurd rfl h
theorem rws_ok {c : Nat → Bool} {S : Nat → Int32} : ∀ (n : Nat), (∀ a, a < n → c a = true → sml 16 (S a)) → Ech (rws c S n) ∧ ∀ y, red (rws c S n) 16 y = 0 ↔ spn c S n y
  | 0, _ => ⟨ech_0, fun y => by show red (fun _ => 0) 16 y = 0 ↔ _; rw [red_0]; exact Iff.rfl⟩
  | n + 1, h => by
    obtain ⟨hE, hk⟩ := rws_ok n (fun a ha => h a (by omega))
    show Ech (if c n then _ else _) ∧ ∀ y, red (if c n then _ else _) 16 y = 0 ↔ _
    by_cases hc : c n = true
    · rw [if_pos hc]
      have hs := h n (Nat.lt_succ_self n) hc
      refine ⟨lr_ech hE 16 _ (Nat.le_refl _) hs, fun y => ?_⟩
      rw [lr_ker hE 16 _ (Nat.le_refl _) hs, hk, hk]
      exact ⟨fun q => q.elim Or.inl (fun q => Or.inr ⟨hc, q⟩), fun q => q.elim Or.inl (fun q => Or.inr q.2)⟩
    · rw [if_neg hc]
      refine ⟨hE, fun y => ?_⟩
      rw [hk]
      exact ⟨Or.inl, fun q => q.elim id (fun q => absurd q.1 hc)⟩
theorem mrw_ok {c : Nat → Bool} {S : Nat → Int32} : ∀ (n : Nat), (∀ a, a < n → c a = true → sml 16 (S a)) → Ech (mrw c S n) ∧ ∀ y, red (mrw c S n) 16 y = 0 ↔ spn c S n y
  | 0, _ => ⟨ech_0, fun y => by show red (fun _ => 0) 16 y = 0 ↔ _; rw [red_0]; exact Iff.rfl⟩
  | n + 1, h => by
    obtain ⟨hE, hk⟩ := mrw_ok n (fun a ha => h a (by omega))
    show Ech (if c n then _ else _) ∧ ∀ y, red (if c n then _ else _) 16 y = 0 ↔ _
    by_cases hc : c n = true
    · rw [if_pos hc]
      have hs := h n (Nat.lt_succ_self n) hc
      obtain ⟨m1, m2⟩ := ml_ker hE hs
      refine ⟨m1, fun y => ?_⟩
      rw [m2, hk, hk]
      exact ⟨fun q => q.elim Or.inl (fun q => Or.inr ⟨hc, q⟩), fun q => q.elim Or.inl (fun q => Or.inr q.2)⟩
    · rw [if_neg hc]
      refine ⟨hE, fun y => ?_⟩
      rw [hk]
      exact ⟨Or.inl, fun q => q.elim id (fun q => absurd q.1 hc)⟩
theorem mr_eq {c : Nat → Bool} {S : Nat → Int32} {n : Nat} (h : ∀ a, a < n → c a = true → sml 16 (S a)) (y : Int32) : red (mrw c S n) 16 y = 0 ↔ red (rws c S n) 16 y = 0 :=
  ((mrw_ok n h).2 y).trans ((rws_ok n h).2 y).symm
theorem mct_eq {c : Nat → Bool} {S : Nat → Int32} : ∀ (n : Nat), (∀ a, a < n → c a = true → sml 16 (S a)) → mct c S n = cnt c S n
  | 0, _ => rfl
  | n + 1, h => by
    show mct c S n + _ = cnt c S n + _
    rw [mct_eq n (fun a ha => h a (by omega))]
    by_cases hc : c n = true
    · rw [hc, if_pos rfl, lr_gr (rws_ok n (fun a ha => h a (by omega))).1 16 _ (Nat.le_refl _) (h n (Nat.lt_succ_self n) hc)]
      by_cases q : red (rws c S n) 16 (S n) = 0
      · rw [if_pos q, decide_eq_true ((mr_eq (fun a ha => h a (by omega)) _).mpr q)]; rfl
      · rw [if_neg q, decide_eq_false (fun z => q ((mr_eq (fun a ha => h a (by omega)) _).mp z))]; rfl
    · have hf : c n = false := by cases h : c n; rfl; exact absurd h hc
      rw [hf]; rfl
theorem cnt_le {c : Nat → Bool} {S : Nat → Int32} (n : Nat) : cnt c S n ≤ n := by
  have g1 : ∀ (f : Nat → Int32) (k : Nat) (x : Int32), lrG f k x ≤ 1 := by
    intro f k
    induction k with
    | zero => intro x; exact Nat.zero_le _
    | succ k ih =>
      intro x
      show (if bt x k then (if f k = 0 then 1 else lrG f k (x ^^^ f k)) else lrG f k x) ≤ 1
      split
      · split
        · exact Nat.le_refl _
        · exact ih _
      · exact ih _
  induction n with
  | zero => exact Nat.le_refl _
  | succ n ih =>
    show cnt c S n + (if c n then lrG (rws c S n) 16 (S n) else 0) ≤ n + 1
    have := g1 (rws c S n) 16 (S n)
    split <;> omega
