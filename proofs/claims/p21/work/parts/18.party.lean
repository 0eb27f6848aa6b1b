/-! a party in the world, and what it knows -/
def rIn (k a b h : Int32) : Int32 := if k = 0 then nI 0 else if a ≤ h ∧ h ≤ b then k else nI 0
def anyB (P : Nat → Bool) : Nat → Bool
  | 0 => false
  | n + 1 => anyB P n || P n
theorem anyB_t {P : Nat → Bool} {i : Nat} (h : P i = true) : ∀ n, i < n → anyB P n = true
  | 0, q => absurd q (Nat.not_lt_zero i)
  | n + 1, q => by
    show (anyB P n || P n) = true
    rcases Nat.lt_or_ge i n with k | k
    · rw [anyB_t h n k]; rfl
    · rw [show n = i by omega, h, Bool.or_true]
theorem anyB_iff {P : Nat → Bool} : ∀ n, anyB P n = true ↔ ∃ i, i < n ∧ P i = true
  | 0 => ⟨fun h => (by cases h), fun ⟨i, h, _⟩ => absurd h (Nat.not_lt_zero i)⟩
  | n + 1 => by
    constructor
    · intro h
      have h' : (anyB P n || P n) = true := h
      rcases Bool.or_eq_true_iff.mp h' with k | k
      · obtain ⟨i, a, b⟩ := (anyB_iff n).mp k
        exact ⟨i, by omega, b⟩
      · exact ⟨n, Nat.lt_succ_self n, k⟩
    · rintro ⟨i, a, b⟩
      exact anyB_t b _ a
theorem anyB_cong {P R : Nat → Bool} : ∀ {n : Nat}, (∀ i, i < n → P i = R i) → anyB P n = anyB R n
  | 0, _ => rfl
  | n + 1, h => by show (anyB P n || P n) = (anyB R n || R n); rw [anyB_cong (fun i hi => h i (by omega)), h n (Nat.lt_succ_self n)]
def sC (K : Nat → Nat) : Nat → Nat
  | 0 => 0
  | n + 1 => sC K n + K n
theorem sC_cong {K L : Nat → Nat} : ∀ {n : Nat}, (∀ i, i < n → K i = L i) → sC K n = sC L n
  | 0, _ => rfl
  | n + 1, h => by show sC K n + K n = sC L n + L n; rw [sC_cong (fun i hi => h i (by omega)), h n (Nat.lt_succ_self n)]
theorem sC_le {K : Nat → Nat} {c : Nat} (h : ∀ i, K i ≤ c) : ∀ n, sC K n ≤ n * c
  | 0 => Nat.zero_le _
  | n + 1 => by show sC K n + K n ≤ (n + 1) * c; have := sC_le h n; have := h n; rw [Nat.succ_mul]; omega
/-- how many of the bits that are asked a set is new for -/
def cC (KF : Nat → Nat → Int32) (bit x : Int32) : Nat → Nat
  | 0 => 0
  | b + 1 => cC KF bit x b + (if cov bit b && !decide (red (KF b) 16 x = 0) then 1 else 0)
theorem cC_le {KF : Nat → Nat → Int32} {bit x : Int32} : ∀ n, cC KF bit x n ≤ n
  | 0 => Nat.le_refl 0
  | n + 1 => by show cC KF bit x n + _ ≤ n + 1; have := cC_le (KF := KF) (bit := bit) (x := x) n; split <;> omega
def lK (KF : Nat → Nat → Int32) (bit x : Int32) (i : Nat) : Nat → Nat → Int32 := fun b => if b < i ∧ cov bit b = true then lrF (KF b) 16 x else KF b
def lC (KF : Nat → Nat → Int32) (KC : Nat → Nat) (bit x : Int32) (i : Nat) : Nat → Nat := fun b => if b < i ∧ cov bit b = true then KC b + lrG (KF b) 16 x else KC b
def PT (E : xE) (al : Tg → Nat) (w : Tg → Option va_E) (p : Nat) (bu : Int32) (rk rf rt fr : Nat → Int32) (KF : Nat → Nat → Int32) (KC : Nat → Nat) : Prop :=
  w (2, p, 0) = some (.inr (5, [.int (nI p), .int bu, .ref (al (2, p, 1)), .ref (al (2, p, 2)), .ref (al (2, p, 3))])) ∧
  w (2, p, 1) = some (.inl (E.2.1 4, 16, .inr (.inr (.inr (.inr (fun f => if rk f = 0 then none else some (al (3, p, f)))))))) ∧
  w (2, p, 2) = some (.inl (E.2.1 3, 8, .inr (.inr (.inr (.inr (fun b => some (al (4, p, b)))))))) ∧
  w (2, p, 3) = some (.inl (E.2.1 0, 5, .inl fr)) ∧
  (∀ f, f < 16 → rk f ≠ 0 → w (3, p, f) = some (.inr (6, [.int (rk f), .int (rf f), .int (rt f)]))) ∧
  (∀ b, b < 8 → w (4, p, b) = some (.inr (3, [.ref (al (5, p, b)), .int (nI (KC b))]))) ∧
  ∀ b, b < 8 → w (5, p, b) = some (.inl (E.2.1 0, 16, .inl (KF b)))
def kw (E : xE) (al : Tg → Nat) (w : Tg → Option va_E) (p : Nat) (KF : Nat → Nat → Int32) (KC : Nat → Nat) : Tg → Option va_E := fun t =>
  if t.1 = 4 ∧ t.2.1 = p ∧ t.2.2 < 8 then some (.inr (3, [.ref (al (5, p, t.2.2)), .int (nI (KC t.2.2))]))
  else if t.1 = 5 ∧ t.2.1 = p ∧ t.2.2 < 8 then some (.inl (E.2.1 0, 16, .inl (KF t.2.2))) else w t
section KW
variable {E : xE} {al : Tg → Nat} {w : Tg → Option va_E} {p : Nat} {bu : Int32} {rk rf rt fr : Nat → Int32} {KF KF' : Nat → Nat → Int32} {KC KC' : Nat → Nat}
theorem kw_4 {b : Nat} (hb : b < 8) : kw E al w p KF KC (4, p, b) = some (.inr (3, [.ref (al (5, p, b)), .int (nI (KC b))])) := if_pos ⟨rfl, rfl, hb⟩
theorem kw_5 {b : Nat} (hb : b < 8) : kw E al w p KF KC (5, p, b) = some (.inl (E.2.1 0, 16, .inl (KF b))) := (if_neg (fun h => by cases h.1)).trans (if_pos ⟨rfl, rfl, hb⟩)
theorem kw_o {t : Tg} (h : ¬ ((t.1 = 4 ∨ t.1 = 5) ∧ t.2.1 = p ∧ t.2.2 < 8)) : kw E al w p KF KC t = w t := by
  unfold kw
  rw [if_neg (fun q => h ⟨Or.inl q.1, q.2⟩), if_neg (fun q => h ⟨Or.inr q.1, q.2⟩)]
theorem kw_PT (h : PT E al w p bu rk rf rt fr KF KC) (KF' : Nat → Nat → Int32) (KC' : Nat → Nat) : PT E al (kw E al w p KF' KC') p bu rk rf rt fr KF' KC' := by
  obtain ⟨h0, h1, h2, h3, h4, h5, h6⟩ := h
  exact ⟨(kw_o (by simp)).trans h0, (kw_o (by simp)).trans h1, (kw_o (by simp)).trans h2, (kw_o (by simp)).trans h3, fun f hf hk => (kw_o (by simp)).trans (h4 f hf hk), fun b hb => kw_4 hb, fun b hb => kw_5 hb⟩
theorem kw_cong (h1 : ∀ b, b < 8 → KF b = KF' b) (h2 : ∀ b, b < 8 → KC b = KC' b) : kw E al w p KF KC = kw E al w p KF' KC' := by
  funext t
  unfold kw
  by_cases c1 : t.1 = 4 ∧ t.2.1 = p ∧ t.2.2 < 8
  · rw [if_pos c1, if_pos c1, h2 _ c1.2.2]
  · rw [if_neg c1, if_neg c1]
    by_cases c2 : t.1 = 5 ∧ t.2.1 = p ∧ t.2.2 < 8
    · rw [if_pos c2, if_pos c2, h1 _ c2.2.2]
    · rw [if_neg c2, if_neg c2]
theorem kw_self (h : PT E al w p bu rk rf rt fr KF KC) : kw E al w p KF KC = w := by
  obtain ⟨-, -, -, -, -, h5, h6⟩ := h
  funext t
  unfold kw
  obtain ⟨a, b, d⟩ := t
  by_cases c1 : a = 4 ∧ b = p ∧ d < 8
  · rw [if_pos c1]; obtain ⟨rfl, rfl, hd⟩ := c1; exact (h5 d hd).symm
  · rw [if_neg c1]
    by_cases c2 : a = 5 ∧ b = p ∧ d < 8
    · rw [if_pos c2]; obtain ⟨rfl, rfl, hd⟩ := c2; exact (h6 d hd).symm
    · rw [if_neg c2]
theorem kw_step {b n : Nat} {f : Nat → Int32} (hb : b < 8) : xu (xu (kw E al w p KF KC) (5, p, b) (.inl (E.2.1 0, 16, .inl f))) (4, p, b) (.inr (3, [.ref (al (5, p, b)), .int (nI n)])) = kw E al w p (va_up KF b f) (va_up KC b n) := by
  funext t
  obtain ⟨x, y, z⟩ := t
  by_cases c1 : x = 4 ∧ y = p ∧ z < 8
  · obtain ⟨rfl, rfl, hz⟩ := c1
    rw [kw_4 hz]
    by_cases e : z = b
    · subst e; rw [xu_self, va_up_self]
    · rw [xu_ne (by simp [e]), xu_ne (by simp), kw_4 hz, va_up_ne _ _ e]
  · by_cases c2 : x = 5 ∧ y = p ∧ z < 8
    · obtain ⟨rfl, rfl, hz⟩ := c2
      rw [kw_5 hz, xu_ne (by simp)]
      by_cases e : z = b
      · subst e; rw [xu_self, va_up_self]
      · rw [xu_ne (by simp [e]), kw_5 hz, va_up_ne _ _ e]
    · have n1 : ((x, y, z) : Tg) ≠ (4, p, b) := fun q => by cases q; exact c1 ⟨rfl, rfl, hb⟩
      have n2 : ((x, y, z) : Tg) ≠ (5, p, b) := fun q => by cases q; exact c2 ⟨rfl, rfl, hb⟩
      have n3 : ¬ (((x, y, z) : Tg).1 = 4 ∨ ((x, y, z) : Tg).1 = 5) ∨ ¬ (y = p ∧ z < 8) := by
        by_cases q : y = p ∧ z < 8
        · exact Or.inl fun r => r.elim (fun r => c1 ⟨r, q⟩) (fun r => c2 ⟨r, q⟩)
        · exact Or.inr q
      rw [xu_ne n1, xu_ne n2, kw_o (fun q => n3.elim (fun r => r q.1) (fun r => r q.2)), kw_o (fun q => n3.elim (fun r => r q.1) (fun r => r q.2))]
end KW
theorem lK_s {KF : Nat → Nat → Int32} {bit x : Int32} {i : Nat} (h : cov bit i = true) : va_up (lK KF bit x i) i (lrF (lK KF bit x i i) 16 x) = lK KF bit x (i + 1) := by
  have e : lK KF bit x i i = KF i := if_neg (fun q => absurd q.1 (Nat.lt_irrefl i))
  rw [e]
  funext b
  by_cases c : b = i
  · subst c; rw [va_up_self]; exact (if_pos ⟨Nat.lt_succ_self b, h⟩).symm
  · rw [va_up_ne _ _ c]
    show (if b < i ∧ cov bit b = true then lrF (KF b) 16 x else KF b) = (if b < i + 1 ∧ cov bit b = true then lrF (KF b) 16 x else KF b)
    by_cases k : b < i ∧ cov bit b = true
    · rw [if_pos k, if_pos ⟨by omega, k.2⟩]
    · rw [if_neg k, if_neg (fun q => k ⟨by omega, q.2⟩)]
theorem lK_n {KF : Nat → Nat → Int32} {bit x : Int32} {i : Nat} (h : cov bit i = false) : lK KF bit x i = lK KF bit x (i + 1) := by
  funext b
  show (if b < i ∧ cov bit b = true then lrF (KF b) 16 x else KF b) = (if b < i + 1 ∧ cov bit b = true then lrF (KF b) 16 x else KF b)
  by_cases k : b < i ∧ cov bit b = true
  · rw [if_pos k, if_pos ⟨by omega, k.2⟩]
  · rw [if_neg k, if_neg (fun q => by
      by_cases e : b = i
      · rw [e, h] at q; cases q.2
      · exact k ⟨by omega, q.2⟩)]
theorem lC_s {KF : Nat → Nat → Int32} {KC : Nat → Nat} {bit x : Int32} {i : Nat} (h : cov bit i = true) : va_up (lC KF KC bit x i) i (lC KF KC bit x i i + lrG (lK KF bit x i i) 16 x) = lC KF KC bit x (i + 1) := by
  have e : lK KF bit x i i = KF i := if_neg (fun q => absurd q.1 (Nat.lt_irrefl i))
  have e2 : lC KF KC bit x i i = KC i := if_neg (fun q => absurd q.1 (Nat.lt_irrefl i))
  rw [e, e2]
  funext b
  by_cases c : b = i
  · subst c; rw [va_up_self]; exact (if_pos ⟨Nat.lt_succ_self b, h⟩).symm
  · rw [va_up_ne _ _ c]
    show (if b < i ∧ cov bit b = true then KC b + lrG (KF b) 16 x else KC b) = (if b < i + 1 ∧ cov bit b = true then KC b + lrG (KF b) 16 x else KC b)
    by_cases k : b < i ∧ cov bit b = true
    · rw [if_pos k, if_pos ⟨by omega, k.2⟩]
    · rw [if_neg k, if_neg (fun q => k ⟨by omega, q.2⟩)]
theorem lC_n {KF : Nat → Nat → Int32} {KC : Nat → Nat} {bit x : Int32} {i : Nat} (h : cov bit i = false) : lC KF KC bit x i = lC KF KC bit x (i + 1) := by
  funext b
  show (if b < i ∧ cov bit b = true then KC b + lrG (KF b) 16 x else KC b) = (if b < i + 1 ∧ cov bit b = true then KC b + lrG (KF b) 16 x else KC b)
  by_cases k : b < i ∧ cov bit b = true
  · rw [if_pos k, if_pos ⟨by omega, k.2⟩]
  · rw [if_neg k, if_neg (fun q => by
      by_cases e : b = i
      · rw [e, h] at q; cases q.2
      · exact k ⟨by omega, q.2⟩)]
theorem lK_0 {KF : Nat → Nat → Int32} {bit x : Int32} : lK KF bit x 0 = KF := by funext b; exact if_neg (fun q => absurd q.1 (Nat.not_lt_zero b))
theorem lC_0 {KF : Nat → Nat → Int32} {KC : Nat → Nat} {bit x : Int32} : lC KF KC bit x 0 = KC := by funext b; exact if_neg (fun q => absurd q.1 (Nat.not_lt_zero b))
/-- nothing known below i -/
def gK (KF : Nat → Nat → Int32) (i : Nat) : Nat → Nat → Int32 := fun b => if b < i then fun _ => 0 else KF b
def gC (KC : Nat → Nat) (i : Nat) : Nat → Nat := fun b => if b < i then 0 else KC b
theorem gK_0 {KF : Nat → Nat → Int32} : gK KF 0 = KF := by funext b; exact if_neg (Nat.not_lt_zero b)
theorem gC_0 {KC : Nat → Nat} : gC KC 0 = KC := by funext b; exact if_neg (Nat.not_lt_zero b)
theorem gK_s {KF : Nat → Nat → Int32} {i : Nat} : va_up (gK KF i) i (fun _ => 0) = gK KF (i + 1) := by
  funext b
  by_cases c : b = i
  · subst c; rw [va_up_self]; exact (if_pos (Nat.lt_succ_self b)).symm
  · rw [va_up_ne _ _ c]
    show (if b < i then _ else _) = (if b < i + 1 then _ else _)
    by_cases k : b < i
    · rw [if_pos k, if_pos (by omega)]
    · rw [if_neg k, if_neg (by omega)]
theorem gC_s {KC : Nat → Nat} {i : Nat} : va_up (gC KC i) i 0 = gC KC (i + 1) := by
  funext b
  by_cases c : b = i
  · subst c; rw [va_up_self]; exact (if_pos (Nat.lt_succ_self b)).symm
  · rw [va_up_ne _ _ c]
    show (if b < i then _ else _) = (if b < i + 1 then _ else _)
    by_cases k : b < i
    · rw [if_pos k, if_pos (by omega)]
    · rw [if_neg k, if_neg (by omega)]
