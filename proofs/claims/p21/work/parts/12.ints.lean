/-! whole numbers, truth values, bits, loops (the b_ rows are the kit's, out of laws/BITS) -/
def bt (x : Int32) (i : Nat) : Bool := x.toBitVec.getLsbD i
theorem b_ext {x y : Int32} (h : ∀ i, i < 32 → bt x i = bt y i) : x = y := Int32.toBitVec_inj.mp (BitVec.eq_of_getLsbD_eq (fun i hi => h i hi))
theorem b_or (x y : Int32) (i : Nat) : bt (x ||| y) i = (bt x i || bt y i) := by unfold bt; rw [Int32.toBitVec_or, BitVec.getLsbD_or]
theorem b_and (x y : Int32) (i : Nat) : bt (x &&& y) i = (bt x i && bt y i) := by unfold bt; rw [Int32.toBitVec_and, BitVec.getLsbD_and]
theorem b_xor (x y : Int32) (i : Nat) : bt (x ^^^ y) i = (bt x i ^^ bt y i) := by unfold bt; rw [Int32.toBitVec_xor, BitVec.getLsbD_xor]
theorem b_big {x : Int32} {i : Nat} (h : 32 ≤ i) : bt x i = false := BitVec.getLsbD_of_ge _ _ h
theorem b_0 (i : Nat) : bt 0 i = false := BitVec.getLsbD_zero
theorem s_l : ∀ n, n < 32 → ((nI n &&& 31).toBitVec.smod 32).toNat = n := by decide +kernel
theorem b_shl (n : Nat) (hn : n < 32) (x : Int32) {i : Nat} (hi : i < 32) : bt (x <<< (nI n &&& 31)) i = (decide (n ≤ i) && bt x (i - n)) := by
  unfold bt
  rw [Int32.toBitVec_shiftLeft]
  show (x.toBitVec <<< ((nI n &&& 31).toBitVec.smod 32).toNat).getLsbD i = _
  rw [s_l n hn, BitVec.getLsbD_shiftLeft]
  rcases Nat.lt_or_ge i n with h | h
  · simp [h, Nat.not_le.mpr h]
  · simp [hi, h, Nat.not_lt.mpr h]
theorem b_sshr (n : Nat) (hn : n < 32) (x : Int32) {i : Nat} (hi : i < 32) : bt (x >>> (nI n &&& 31)) i = if n + i < 32 then bt x (n + i) else bt x 31 := by
  unfold bt
  rw [Int32.toBitVec_shiftRight]
  show (x.toBitVec.sshiftRight ((nI n &&& 31).toBitVec.smod 32).toNat).getLsbD i = _
  rw [s_l n hn, BitVec.getLsbD_sshiftRight, BitVec.msb_eq_getLsbD_last]
  simp [hi]
theorem nf_sh : ∀ l, l < 32 → ((1 : Int32) <<< (nI l &&& 31)).toBitVec = BitVec.twoPow 32 l := by decide +kernel
theorem b_1 (i : Nat) : bt (nI 1) i = decide (i = 0) := by
  rcases Nat.lt_or_ge i 32 with h | h
  · have : ∀ i, i < 32 → bt (nI 1) i = decide (i = 0) := by decide +kernel
    exact this i h
  · rw [b_big h]
    simp; omega
def ob (b : Bool) : Int32 := if b then 1 else 0
theorem ob_0 {b : Bool} : ob b = 0 ↔ b = false := by cases b <;> decide
theorem ob_n {b : Bool} : ¬ ob b = 0 ↔ b = true := by cases b <;> decide
theorem ob_1 {b : Bool} : ob b = nI 1 ↔ b = true := by cases b <;> decide
theorem ob_n1 {b : Bool} : ¬ ob b = nI 1 ↔ b = false := by cases b <;> decide
theorem ob_01 (b : Bool) : ob b = 0 ∨ ob b = 1 := by cases b <;> decide
theorem ob_nar {b : Bool} : narrow .boolean (.int (ob b)) = .int (ob b) := by cases b <;> rfl
theorem ob_t : nI 1 = ob true := rfl
theorem ob_f : nI 0 = ob false := rfl
theorem hd_bt (x : Int32) {k : Nat} (hk : k < 32) : (x >>> (nI k &&& 31)) &&& nI 1 = ob (bt x k) := by
  apply b_ext
  intro i hi
  rw [b_and, b_sshr k hk x hi, b_1]
  rcases Nat.eq_zero_or_pos i with h | h
  · subst h
    simp only [Nat.add_zero, hk, if_true, decide_true, Bool.and_true]
    cases bt x k <;> decide +kernel
  · have hn : ¬ i = 0 := by omega
    rw [decide_eq_false hn, Bool.and_false]
    cases bt x k
    · exact (b_0 i).symm
    · show false = bt (nI 1) i
      rw [b_1, decide_eq_false hn]
def dI (j : Nat) : Int32 := nI j + (-1)
theorem dI_s (j : Nat) : dI (j + 1) = nI j := pk_m1 j
theorem dI_sub (j : Nat) : nI j - nI 1 = dI j := by
  unfold dI
  rw [Int32.sub_eq_add_neg]
  rfl
theorem dI_dec (j : Nat) : dI (j + 1) + Int32.ofInt (-1) = dI j := by
  rw [dI_s]; rfl
theorem dI_lt {j : Nat} (h : j < 2 ^ 31) : dI j < 0 ↔ j = 0 := by
  cases j with
  | zero => decide +kernel
  | succ j => rw [dI_s]; exact ⟨fun q => absurd q (nI_pos (by omega)), fun q => by cases q⟩
theorem dI_ge {j : Nat} (h : j < 2 ^ 31) : 0 ≤ dI j ↔ 0 < j := by
  cases j with
  | zero => decide +kernel
  | succ j => rw [dI_s]; exact ⟨fun _ => Nat.succ_pos j, fun _ => nI_pos' (by omega)⟩
theorem nI_eq0 {j : Nat} (h : j < 2 ^ 31) : nI j = 0 ↔ j = 0 := nI_eq (a := j) (b := 0) h (by decide)
theorem nI_le0 {j : Nat} (h : j < 2 ^ 31) : nI j ≤ 0 ↔ j = 0 := (nI_leI (a := j) (b := 0) h (by decide)).trans (by omega)
theorem nI_gt0 {j : Nat} (h : j < 2 ^ 31) : 0 < nI j ↔ 0 < j := nI_ltI (a := 0) (b := j) (by decide) h
theorem lp_up {P : Nat → Prop} {n : Nat} (h : ∀ i, i ≤ n → (i < n → P (i + 1)) → P i) : ∀ i, i ≤ n → P i := by
  have key : ∀ k i, i ≤ n → n - i = k → P i := by
    intro k
    induction k with
    | zero => intro i hi hk; exact h i hi (fun q => absurd q (by omega))
    | succ k ih => intro i hi hk; exact h i hi (fun q => ih (i + 1) q (by omega))
  exact fun i hi => key (n - i) i hi rfl
theorem lp_dn {P : Nat → Prop} (h0 : P 0) (h : ∀ j, P j → P (j + 1)) : ∀ j, P j := by
  intro j
  induction j with
  | zero => exact h0
  | succ j ih => exact h j ih
theorem tg_ne {w : Tg → Option va_E} {t t' : Tg} {e e' : va_E} (h : w t = some e) (h' : w t' = some e') (n : e ≠ e') : t ≠ t' := fun q => n (by subst q; exact Option.some.inj (h.symm.trans h'))
section LRE
variable {p : Program} {l : Launch} {e : Env} {R : Room} {s : State} {m : MethodId} {args : Array Value} {below : List Frame} {meth : Method} {c : Code} {H : Heap} {locs : List Loc} {cells slots : Nat} {Q : State → Prop} {pc : Nat} {ls : Array Slot} {rest : List Value}
theorem lv_re {x y : Int32} (h : x = y) (k : W p l e R s m args below meth c H locs cells slots Q (F0 m pc ls (.int y :: rest))) : W p l e R s m args below meth c H locs cells slots Q (F0 m pc ls (.int x :: rest)) := h ▸ k
theorem lv_rel {x y : Int64} (h : x = y) (k : W p l e R s m args below meth c H locs cells slots Q (F0 m pc ls (.long y :: rest))) : W p l e R s m args below meth c H locs cells slots Q (F0 m pc ls (.long x :: rest)) := h ▸ k
theorem lv_rev {x y : Value} (h : x = y) (k : W p l e R s m args below meth c H locs cells slots Q (F0 m pc ls (y :: rest))) : W p l e R s m args below meth c H locs cells slots Q (F0 m pc ls (x :: rest)) := h ▸ k
end LRE
/-- what is left of x by the rows f below n -/
def red (f : Nat → Int32) : Nat → Int32 → Int32
  | 0, x => x
  | n + 1, x => red f n (if bt x n then x ^^^ f n else x)
/-- the rows behind a learned set (not reduced to its end) -/
def lrF (f : Nat → Int32) : Nat → Int32 → (Nat → Int32)
  | 0, _ => f
  | n + 1, x => if bt x n then (if f n = 0 then upd f n x else lrF f n (x ^^^ f n)) else lrF f n x
/-- by how much the number of rows grows -/
def lrG (f : Nat → Int32) : Nat → Int32 → Nat
  | 0, _ => 0
  | n + 1, x => if bt x n then (if f n = 0 then 1 else lrG f n (x ^^^ f n)) else lrG f n x
section LAD
variable {p : Program} {l : Launch} {e : Env} {R : Room} {s : State} {m : MethodId} {args : Array Value} {below : List Frame} {meth : Method} {c : Code} {H : Heap} {locs : List Loc} {cells slots : Nat} {Q : State → Prop} {pc : Nat} {ls : Array Slot} {rest : List Value}
theorem lv_adr {a b : Nat} (h : a = b) (k : W p l e R s m args below meth c H locs cells slots Q (F0 m pc ls (.ref b :: rest))) : W p l e R s m args below meth c H locs cells slots Q (F0 m pc ls (.ref a :: rest)) := h ▸ k
theorem lv_adr2 {a b : Nat} {v : Value} (h : a = b) (k : W p l e R s m args below meth c H locs cells slots Q (F0 m pc ls (v :: .ref b :: rest))) : W p l e R s m args below meth c H locs cells slots Q (F0 m pc ls (v :: .ref a :: rest)) := h ▸ k
theorem lv_adr3 {a b : Nat} {v u : Value} (h : a = b) (k : W p l e R s m args below meth c H locs cells slots Q (F0 m pc ls (v :: u :: .ref b :: rest))) : W p l e R s m args below meth c H locs cells slots Q (F0 m pc ls (v :: u :: .ref a :: rest)) := h ▸ k
end LAD
