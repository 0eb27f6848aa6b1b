/-! the room: registers sg (1 number, 2 sealed till, of a file; 3 budget of a party; 4 5 6 a right's kind, from, to, of a party to a file; 7 who 8 set 9 bit 10 told 11 hour, of an answer; 13 how a party's questions fared), rc what is recalled -/
def u3 (sg : Nat → Nat → Nat → Int32) (k i j : Nat) (v : Int32) : Nat → Nat → Nat → Int32 := fun a b d => if a = k ∧ b = i ∧ d = j then v else sg a b d
theorem u3_k {sg : Nat → Nat → Nat → Int32} {k i j : Nat} {v : Int32} {a : Nat} (h : a ≠ k) : u3 sg k i j v a = sg a := by
  funext b d; exact if_neg (fun q => h q.1)
theorem u3_i {sg : Nat → Nat → Nat → Int32} {k i j : Nat} {v : Int32} {b : Nat} (h : b ≠ i) : u3 sg k i j v k b = sg k b := by
  funext d; exact if_neg (fun q => h q.2.1)
theorem u3_s {sg : Nat → Nat → Nat → Int32} {k i j : Nat} {v : Int32} : u3 sg k i j v k i j = v := if_pos ⟨rfl, rfl, rfl⟩
theorem u3_j {sg : Nat → Nat → Nat → Int32} {k i j : Nat} {v : Int32} {d : Nat} (h : d ≠ j) : u3 sg k i j v k i d = sg k i d := if_neg (fun q => h q.2.2)
abbrev sets (sg : Nat → Nat → Nat → Int32) : Nat → Int32 := fun a => sg 8 a 0
def stdb (sg : Nat → Nat → Nat → Int32) (rc : Nat → Bool) (p b : Nat) : Nat → Bool := fun a => (!rc a && decide (sg 7 a 0 = nI p)) && cov (sg 9 a 0) b
abbrev KFs (sg : Nat → Nat → Nat → Int32) (rc : Nat → Bool) (na p : Nat) : Nat → Nat → Int32 := fun b => rws (stdb sg rc p b) (sets sg) na
abbrev KCs (sg : Nat → Nat → Nat → Int32) (rc : Nat → Bool) (na p : Nat) : Nat → Nat := fun b => cnt (stdb sg rc p b) (sets sg) na
def LRa (E : xE) (al : Tg → Nat) (w : Tg → Option va_E) (tL tA : Tg) (n : Nat) (te : Nat → Tg) : Prop :=
  ∃ (mc : Int32) (cap : Nat) (g : Nat → Option Nat), n ≤ cap ∧ 10 ≤ cap ∧ cap ≤ 240 ∧ w tL = some (.inr (0, [.int mc, .ref (al tA), .int (nI n)])) ∧ w tA = some (.inl (E.2.1 5, cap, .inr (.inr (.inr (.inr g))))) ∧ ∀ i, i < n → g i = some (al (te i))
def LRe (E : xE) (w : Tg → Option va_E) (tL : Tg) : Prop := ∃ mc : Int32, w tL = some (.inr (0, [.int mc, .ref (E.2.2 1), .int (nI 0)]))
def LR (E : xE) (al : Tg → Nat) (w : Tg → Option va_E) (tL tA : Tg) (n : Nat) (te : Nat → Tg) : Prop := (n = 0 ∧ LRe E w tL) ∨ LRa E al w tL tA n te
theorem LR.sz {E : xE} {al : Tg → Nat} {w : Tg → Option va_E} {tL tA : Tg} {n : Nat} {te : Nat → Tg} (h : LR E al w tL tA n te) : ∃ (mc : Int32) (a : Nat), w tL = some (.inr (0, [.int mc, .ref a, .int (nI n)])) := by
  rcases h with ⟨rfl, mc, h⟩ | ⟨mc, cap, g, -, -, -, h, -⟩
  · exact ⟨mc, _, h⟩
  · exact ⟨mc, _, h⟩
theorem LR.at {E : xE} {al : Tg → Nat} {w : Tg → Option va_E} {tL tA : Tg} {n : Nat} {te : Nat → Tg} (h : LR E al w tL tA n te) {i : Nat} (hi : i < n) : ∃ (mc : Int32) (cap : Nat) (g : Nat → Option Nat), w tL = some (.inr (0, [.int mc, .ref (al tA), .int (nI n)])) ∧ w tA = some (.inl (E.2.1 5, cap, .inr (.inr (.inr (.inr g))))) ∧ n ≤ cap ∧ cap < 1000 ∧ g i = some (al (te i)) := by
  rcases h with ⟨rfl, -⟩ | ⟨mc, cap, g, h1, -, h2, h3, h4, h5⟩
  · exact absurd hi (Nat.not_lt_zero i)
  · exact ⟨mc, cap, g, h3, h4, h1, by omega, h5 i hi⟩
/-- other cells change, or lie elsewhere -/
theorem LR.mv {E : xE} {al al' : Tg → Nat} {w w' : Tg → Option va_E} {tL tA : Tg} {n : Nat} {te : Nat → Tg} (h : LR E al w tL tA n te) (h1 : w' tL = w tL) (h2 : w' tA = w tA) (h3 : al' tA = al tA) (h4 : ∀ i, i < n → al' (te i) = al (te i)) : LR E al' w' tL tA n te := by
  rcases h with ⟨rfl, mc, h⟩ | ⟨mc, cap, g, a1, a2, a3, a4, a5, a6⟩
  · exact Or.inl ⟨rfl, mc, h1.trans h⟩
  · exact Or.inr ⟨mc, cap, g, a1, a2, a3, by rw [h3]; exact h1.trans a4, h2.trans a5, fun i hi => by rw [h4 i hi]; exact a6 i hi⟩
abbrev tF (i : Nat) : Tg := (1, i, 0)
abbrev tP (i : Nat) : Tg := (2, i, 0)
abbrev tN (a : Nat) : Tg := (6, a, 0)
def RM (E : xE) (al : Tg → Nat) (w : Tg → Option va_E) (nf np na nw : Nat) (sg : Nat → Nat → Nat → Int32) (rc : Nat → Bool) : Prop :=
  w (0, 0, 0) = some (.inr (7, [.ref (al (0, 1, 0)), .ref (al (0, 2, 0)), .ref (al (0, 3, 0)), .int (nI nw), .ref (al (0, 4, 0)), .ref (al (0, 5, 0))])) ∧
  LR E al w (0, 1, 0) (0, 1, 1) nf tF ∧ LR E al w (0, 2, 0) (0, 2, 1) np tP ∧ LR E al w (0, 3, 0) (0, 3, 1) na tN ∧
  (∃ (n : Int32) (f : Nat → Int32), w (0, 4, 0) = some (.inr (3, [.ref (al (0, 4, 1)), .int n])) ∧ w (0, 4, 1) = some (.inl (E.2.1 0, 16, .inl f))) ∧
  (∃ (n : Int32) (f : Nat → Int64), w (0, 5, 0) = some (.inr (4, [.ref (al (0, 5, 1)), .int n])) ∧ w (0, 5, 1) = some (.inl (E.2.1 1, 1024, .inr (.inl f)))) ∧
  (∀ i, i < nf → w (1, i, 0) = some (.inr (2, [.int (sg 1 i 0), .int (sg 2 i 0)]))) ∧
  (∀ p, p < np → PT E al w p (sg 3 p 0) (sg 4 p) (sg 5 p) (sg 6 p) (sg 13 p) (KFs sg rc na p) (KCs sg rc na p)) ∧
  ∀ a, a < na → w (6, a, 0) = some (.inr (1, [.int (sg 7 a 0), .int (sg 8 a 0), .int (sg 9 a 0), .int (sg 10 a 0), .int (sg 11 a 0), .int (ob (rc a))]))
/-- what every run keeps to -/
def INV (nf np na nw : Nat) (sg : Nat → Nat → Nat → Int32) (rc : Nat → Bool) : Prop :=
  nf ≤ 16 ∧ np ≤ 6 ∧ na ≤ 150 ∧ nw ≤ 5000 ∧
  (∀ a, a < na → (∃ p, p < np ∧ sg 7 a 0 = nI p) ∧ sml nf (sg 8 a 0) ∧ (sg 9 a 0 = -1 ∨ ∃ b, b < 8 ∧ sg 9 a 0 = nI b)) ∧
  (∀ i, nf ≤ i → sg 2 i 0 = -1) ∧ (∀ p, np ≤ p → (∀ f, sg 4 p f = 0) ∧ ∀ k, sg 13 p k = 0) ∧
  (∀ p f, ∃ k, k ≤ 2 ∧ sg 4 p f = nI k) ∧ ∀ a, na ≤ a → rc a = false
/-- x is the number of one of n -/
def inR (x : Int32) (n : Nat) : Prop := ∃ j, j < n ∧ x = nI j
theorem inR_of {x : Int32} {n : Nat} (hn : n < 2 ^ 31) (h1 : ¬ x < 0) (h2 : x < nI n) : inR x n := by
  obtain ⟨j, hj, rfl⟩ := nI_of h1
  exact ⟨j, (nI_ltI hj hn).mp h2, rfl⟩
theorem inR_no {x : Int32} {n : Nat} (hn : n < 2 ^ 31) (h : x < 0 ∨ ¬ x < nI n) : ¬ inR x n := by
  rintro ⟨j, hj, rfl⟩
  rcases h with h | h
  · exact nI_pos (by omega) h
  · exact h ((nI_ltI (by omega) hn).mpr hj)
def Qok (nf : Nat) (x bit : Int32) : Prop := (nI 1 ≤ x ∧ x ≤ (nI 1 <<< (nI nf &&& 31)) - nI 1) ∧ ((-1) ≤ bit ∧ bit ≤ nI 7)
def xoR (x : Int32) (nu : Nat → Int32) : Nat → Int32
  | 0 => nI 0
  | n + 1 => if bt x n then xoR x nu n ^^^ nu n else xoR x nu n
def tel (bit s : Int32) : Int32 := if bit = -1 then s else (s >>> (bit &&& 31)) &&& nI 1
/-- a party lacks the right to some file of the set; some file of it is sealed -/
def lack (nf nw : Nat) (sg : Nat → Nat → Nat → Int32) (p : Nat) (x : Int32) : Bool := anyB (fun f => bt x f && decide (rIn (sg 4 p f) (sg 5 p f) (sg 6 p f) (nI nw) = 0)) nf
def seld (nf nw : Nat) (sg : Nat → Nat → Nat → Int32) (x : Int32) : Bool := anyB (fun f => bt x f && decide (nI nw ≤ sg 2 f 0)) nf
def wTl (nw na : Nat) (sg : Nat → Nat → Nat → Int32) (rc : Nat → Bool) (p : Nat) (x bit : Int32) : Bool :=
  anyB (fun f => !decide (rIn (sg 4 p f) (sg 5 p f) (sg 6 p f) (nI nw) = nI 2) && anyB (fun b => cov bit b && wre (KFs sg rc na p b) (nI 1 <<< (nI f &&& 31)) x) 8) 16
def dear (na : Nat) (sg : Nat → Nat → Nat → Int32) (rc : Nat → Bool) (p : Nat) (x bit : Int32) : Bool := decide (sg 3 p 0 < nI (sC (KCs sg rc na p) 8 + cC (KFs sg rc na p) bit x 8))
/-- how a question fares: 0, or the code of its refusal without its sign -/
def fate (nf na nw : Nat) (sg : Nat → Nat → Nat → Int32) (rc : Nat → Bool) (p : Nat) (x bit : Int32) : Nat :=
  if lack nf nw sg p x then 1 else if seld nf nw sg x then 2 else if wTl nw na sg rc p x bit then 3 else if dear na sg rc p x bit then 4 else 0
