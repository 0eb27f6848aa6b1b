/-! marks: sets as places of words -/
def bL (x : Int64) (k : Nat) : Bool := x.toBitVec.getLsbD k
theorem bL_ext {x y : Int64} (h : ∀ k, k < 64 → bL x k = bL y k) : x = y := Int64.toBitVec_inj.mp (BitVec.eq_of_getLsbD_eq (fun i hi => h i hi))
theorem bL_or (x y : Int64) (i : Nat) : bL (x ||| y) i = (bL x i || bL y i) := by unfold bL; rw [Int64.toBitVec_or, BitVec.getLsbD_or]
theorem bL_and (x y : Int64) (i : Nat) : bL (x &&& y) i = (bL x i && bL y i) := by unfold bL; rw [Int64.toBitVec_and, BitVec.getLsbD_and]
theorem bL_0 (i : Nat) : bL 0 i = false := BitVec.getLsbD_zero
theorem bL_big {x : Int64} {i : Nat} (h : 64 ≤ i) : bL x i = false := BitVec.getLsbD_of_ge _ _ h
theorem bL_1 (i : Nat) : bL 1 i = decide (i = 0) := by
  unfold bL
  show (1#64).getLsbD i = _
  rw [BitVec.getLsbD_one]; simp
theorem sL : ∀ j, j < 6 → (((nI 1 <<< (nI j &&& 31)).toInt64 &&& 63).toBitVec.smod 64).toNat = 2 ^ j := by decide +kernel
theorem sR : ∀ j, j < 6 → (((nI 1 <<< (nI j &&& 31)).toInt64.toUInt64 &&& Int64.toUInt64 63).toBitVec % 64).toNat = 2 ^ j := by decide +kernel
theorem sK : ∀ j, j < 64 → (((nI j).toInt64.toUInt64 &&& Int64.toUInt64 63).toBitVec % 64).toNat = j := by decide +kernel
theorem bL_shl {j : Nat} (hj : j < 6) (x : Int64) {k : Nat} (hk : k < 64) : bL (x <<< ((nI 1 <<< (nI j &&& 31)).toInt64 &&& 63)) k = (decide (2 ^ j ≤ k) && bL x (k - 2 ^ j)) := by
  unfold bL
  rw [Int64.toBitVec_shiftLeft]
  show (x.toBitVec <<< (((nI 1 <<< (nI j &&& 31)).toInt64 &&& 63).toBitVec.smod 64).toNat).getLsbD k = _
  rw [sL j hj, BitVec.getLsbD_shiftLeft]
  rcases Nat.lt_or_ge k (2 ^ j) with h | h
  · simp [h, Nat.not_le.mpr h]
  · simp [hk, h, Nat.not_lt.mpr h]
theorem bL_shr (x : Int64) (y : Int32) (n : Nat) (h : ((y.toInt64.toUInt64 &&& Int64.toUInt64 63).toBitVec % 64).toNat = n) : ((x.toUInt64 >>> (y.toInt64.toUInt64 &&& Int64.toUInt64 63)).toInt64).toBitVec = x.toBitVec >>> n := by
  show (x.toUInt64 >>> (y.toInt64.toUInt64 &&& Int64.toUInt64 63)).toBitVec = _
  rw [UInt64.toBitVec_shiftRight]
  show x.toBitVec >>> ((y.toInt64.toUInt64 &&& Int64.toUInt64 63).toBitVec % 64).toNat = _
  rw [h]
theorem bL_shrK (x : Int64) (y : Int32) (n k : Nat) (h : ((y.toInt64.toUInt64 &&& Int64.toUInt64 63).toBitVec % 64).toNat = n) : bL ((x.toUInt64 >>> (y.toInt64.toUInt64 &&& Int64.toUInt64 63)).toInt64) k = bL x (n + k) := by
  unfold bL
  rw [bL_shr x y n h, BitVec.getLsbD_ushiftRight]
def cr1 (x : Int64) (j : Nat) : Int64 := ((x &&& lkf j) <<< ((nI 1 <<< (nI j &&& 31)).toInt64 &&& 63)) ||| ((x.toUInt64 >>> ((nI 1 <<< (nI j &&& 31)).toInt64.toUInt64 &&& Int64.toUInt64 63)).toInt64 &&& lkf j)
def crS (x : Int64) (s : Int32) : Nat → Int64
  | 0 => x
  | j + 1 => if bt s j then cr1 (crS x s j) j else crS x s j
theorem fL1 : ∀ j, j < 6 → ∀ k, k < 64 → bL (lkf j) k = !k.testBit j := by unfold bL; decide +kernel
theorem fL2 : ∀ j, j < 6 → ∀ k, k < 64 → k.testBit j = true → 2 ^ j ≤ k ∧ k - 2 ^ j = k ^^^ 2 ^ j ∧ (k - 2 ^ j).testBit j = false := by decide +kernel
theorem fL3 : ∀ j, j < 6 → ∀ k, k < 64 → k.testBit j = false → 2 ^ j + k = k ^^^ 2 ^ j ∧ 2 ^ j + k < 64 ∧ (2 ^ j ≤ k → (k - 2 ^ j).testBit j = true) := by decide +kernel
theorem bL_cr1 (x : Int64) {j k : Nat} (hj : j < 6) (hk : k < 64) : bL (cr1 x j) k = bL x (k ^^^ 2 ^ j) := by
  unfold cr1
  rw [bL_or, bL_shl hj _ hk, bL_and, bL_and, bL_shrK x _ _ k (sR j hj), fL1 j hj k hk]
  cases hb : k.testBit j with
  | true =>
    obtain ⟨h1, h2, h3⟩ := fL2 j hj k hk hb
    rw [fL1 j hj (k - 2 ^ j) (Nat.lt_of_le_of_lt (Nat.sub_le _ _) hk), h3, h2, decide_eq_true h1]; simp
  | false =>
    obtain ⟨h1, h2, h3⟩ := fL3 j hj k hk hb
    rw [h1]
    by_cases q : 2 ^ j ≤ k
    · rw [fL1 j hj (k - 2 ^ j) (Nat.lt_of_le_of_lt (Nat.sub_le _ _) hk), h3 q]; simp
    · rw [decide_eq_false q]; simp
theorem bt_nI (s : Nat) {i : Nat} (hi : i < 32) : bt (nI s) i = s.testBit i := by
  unfold bt nI
  show (BitVec.ofNat 32 s).getLsbD i = _
  rw [BitVec.getLsbD_ofNat]; simp [hi]
theorem bL_crS (x : Int64) {s : Nat} : ∀ (j k : Nat), j ≤ 6 → k < 64 → bL (crS x (nI s) j) k = bL x (k ^^^ (s % 2 ^ j))
  | 0, k, _, _ => by show bL x k = _; rw [Nat.pow_zero, Nat.mod_one, Nat.xor_zero]
  | j + 1, k, hj, hk => by
    show bL (if bt (nI s) j then _ else _) k = _
    rw [bt_nI s (by omega)]
    have e0 : ∀ b, s.testBit j = b → s % 2 ^ (j + 1) = (if b then 2 ^ j else 0) ^^^ (s % 2 ^ j) := by
      intro b hb
      apply Nat.eq_of_testBit_eq
      intro i
      rw [Nat.testBit_mod_two_pow, Nat.testBit_xor, Nat.testBit_mod_two_pow]
      by_cases q : i = j
      · subst q
        cases b <;> simp [hb, Nat.testBit_two_pow_self]
      · have z : (if b = true then 2 ^ j else 0).testBit i = false := by
          cases b
          · simp
          · simp only [if_true]; exact Nat.testBit_two_pow_of_ne (fun e => q e.symm)
        rw [z]
        by_cases q2 : i < j
        · simp [q2, Nat.lt_succ_of_lt q2]
        · have q3 : ¬ i < j + 1 := by omega
          simp [q2, q3]
    cases hb : s.testBit j with
    | true =>
      rw [if_pos rfl, bL_cr1 _ (by omega) hk, bL_crS x j _ (by omega) (Nat.xor_lt_two_pow (n := 6) hk (Nat.pow_lt_pow_right (by decide) (by omega))), e0 true hb, if_pos rfl, Nat.xor_assoc]
    | false =>
      rw [if_neg (by simp), bL_crS x j _ (by omega) hk, e0 false hb, if_neg (by simp), Nat.zero_xor]
theorem nI_xor (a b : Nat) : nI a ^^^ nI b = nI (a ^^^ b) := b_ext fun i hi => by rw [b_xor, bt_nI a hi, bt_nI b hi, bt_nI _ hi, Nat.testBit_xor]
theorem nI_and63 (s : Nat) : nI s &&& nI 63 = nI (s % 64) := b_ext fun i hi => by
  rw [b_and, bt_nI s hi, bt_nI 63 hi, bt_nI _ hi, show (64 : Nat) = 2 ^ 6 from rfl, Nat.testBit_mod_two_pow, show (63 : Nat) = 2 ^ 6 - 1 from rfl, Nat.testBit_two_pow_sub_one, Bool.and_comm]
theorem nI_ush6 {s : Nat} (hs : s < 65536) : ((nI s).toUInt32 >>> ((nI 6).toUInt32 &&& Int32.toUInt32 31)).toInt32 = nI (s / 64) := b_ext fun i hi => by
  rw [bt_nI _ hi]
  unfold bt
  show ((nI s).toUInt32 >>> ((nI 6).toUInt32 &&& Int32.toUInt32 31)).toBitVec.getLsbD i = _
  rw [UInt32.toBitVec_shiftRight]
  show ((nI s).toBitVec >>> (((nI 6).toUInt32 &&& Int32.toUInt32 31).toBitVec % 32).toNat).getLsbD i = _
  rw [show (((nI 6).toUInt32 &&& Int32.toUInt32 31).toBitVec % 32).toNat = 6 by decide +kernel, BitVec.getLsbD_ushiftRight]
  show bt (nI s) (6 + i) = _
  rw [show (64 : Nat) = 2 ^ 6 from rfl, Nat.testBit_div_two_pow, Nat.add_comm i 6]
  by_cases q : 6 + i < 32
  · exact bt_nI s q
  · rw [b_big (by omega)]
    exact (Nat.testBit_lt_two_pow (Nat.lt_of_lt_of_le hs (Nat.le_trans (by decide : 65536 ≤ 2 ^ 16) (Nat.pow_le_pow_right (by decide) (by omega))))).symm
/-! the words behind a set's adding, as far as word i -/
def adW (f : Nat → Int64) (s U i : Nat) : Nat → Int64 := fun v => if v < U ∧ (v ^^^ s / 64) < i then f v ||| crS (f (v ^^^ s / 64)) (nI s) 6 else f v
theorem adW_0 (f : Nat → Int64) (s U : Nat) : adW f s U 0 = f := by funext v; exact if_neg (by omega)
theorem xor_yy (a b : Nat) : (a ^^^ b) ^^^ b = a := by rw [Nat.xor_assoc, Nat.xor_self, Nat.xor_zero]
theorem adW_s {f : Nat → Int64} {s U u i : Nat} (hU : U = 2 ^ u) (hs : s / 64 < U) (hi : i < U) : vp_updL (adW f s U i) (i ^^^ s / 64) (adW f s U i (i ^^^ s / 64) ||| crS (adW f s U i i) (nI s) 6) = adW f s U (i + 1) := by
  funext v
  have hv : i ^^^ s / 64 < U := by subst hU; exact Nat.xor_lt_two_pow hi hs
  by_cases e : v = i ^^^ s / 64
  · have e2 : v ^^^ s / 64 = i := by rw [e, xor_yy]
    show (if v = _ then _ else _) = _
    rw [if_pos e, ← e]
    have a1 : adW f s U i v = f v := if_neg (by rw [e2]; omega)
    have a2 : adW f s U (i + 1) v = f v ||| crS (f i) (nI s) 6 := by
      show (if _ then _ else _) = _
      rw [if_pos ⟨by rw [e]; exact hv, by rw [e2]; omega⟩, e2]
    rw [a1, a2]
    by_cases q : (i ^^^ s / 64) < i
    · have a3 : adW f s U i i = f i ||| crS (f v) (nI s) 6 := by
        show (if _ then _ else _) = _
        rw [if_pos ⟨hi, q⟩, ← e]
      rw [a3]
      refine bL_ext fun k hk => ?_
      have hk2 : k ^^^ (s % 2 ^ 6) < 64 := Nat.xor_lt_two_pow (n := 6) hk (Nat.mod_lt _ (by decide))
      rw [bL_or, bL_or, bL_crS _ 6 k (Nat.le_refl _) hk, bL_crS _ 6 k (Nat.le_refl _) hk, bL_or, bL_crS _ 6 _ (Nat.le_refl _) hk2, xor_yy]
      cases bL (f v) k <;> cases bL (f i) (k ^^^ (s % 2 ^ 6)) <;> rfl
    · have a3 : adW f s U i i = f i := if_neg (fun z => q z.2)
      rw [a3]
  · show (if v = _ then _ else _) = _
    rw [if_neg e]
    have e2 : v ^^^ s / 64 ≠ i := fun z => e (by rw [← z, xor_yy])
    show (if _ then _ else _) = (if _ then _ else _)
    by_cases q : v < U ∧ (v ^^^ s / 64) < i
    · rw [if_pos q, if_pos ⟨q.1, by omega⟩]
    · rw [if_neg q, if_neg (fun z => q ⟨z.1, by omega⟩)]
theorem adW_n {f : Nat → Int64} {s U i : Nat} (hi : i < U) (h0 : adW f s U i i = 0) : adW f s U i = adW f s U (i + 1) := by
  funext v
  by_cases e2 : v ^^^ s / 64 = i
  · have hfi : ∀ k, bL (f i) k = false := by
      intro k
      have : bL (adW f s U i i) k = false := by rw [h0, bL_0]
      unfold adW at this
      split at this
      · rw [bL_or] at this
        cases h : bL (f i) k
        · rfl
        · rw [h] at this; cases this
      · exact this
    show (if _ then _ else _) = (if _ then _ else _)
    rw [if_neg (by rw [e2]; omega)]
    by_cases q : v < U
    · rw [if_pos ⟨q, by rw [e2]; omega⟩, e2]
      refine bL_ext fun k hk => ?_
      rw [bL_or, bL_crS _ 6 k (Nat.le_refl _) hk, hfi]; simp
    · rw [if_neg (fun z => q z.1)]
  · show (if _ then _ else _) = (if _ then _ else _)
    by_cases q : v < U ∧ (v ^^^ s / 64) < i
    · rw [if_pos q, if_pos ⟨q.1, by omega⟩]
    · rw [if_neg q, if_neg (fun z => q ⟨z.1, by omega⟩)]
def bM (f : Nat → Int64) (x : Nat) : Bool := bL (f (x / 64)) (x % 64)
theorem xor_d (x s : Nat) : (x ^^^ s) / 64 = (x / 64) ^^^ (s / 64) ∧ (x ^^^ s) % 64 = (x % 64) ^^^ (s % 64) := by
  have e : (64 : Nat) = 2 ^ 6 := rfl
  rw [e]
  constructor
  · apply Nat.eq_of_testBit_eq; intro i
    rw [Nat.testBit_div_two_pow, Nat.testBit_xor, Nat.testBit_xor, Nat.testBit_div_two_pow, Nat.testBit_div_two_pow]
  · apply Nat.eq_of_testBit_eq; intro i
    rw [Nat.testBit_mod_two_pow, Nat.testBit_xor, Nat.testBit_xor, Nat.testBit_mod_two_pow, Nat.testBit_mod_two_pow]
    cases decide (i < 6) <;> simp
theorem bM_ad {f : Nat → Int64} {s U u x : Nat} (hU : U = 2 ^ u) (hs : s / 64 < U) (hx : x / 64 < U) : bM (adW f s U U) x = (bM f x || bM f (x ^^^ s)) := by
  unfold bM
  have hv : x / 64 ^^^ s / 64 < U := by subst hU; exact Nat.xor_lt_two_pow hx hs
  have a : adW f s U U (x / 64) = f (x / 64) ||| crS (f (x / 64 ^^^ s / 64)) (nI s) 6 := if_pos ⟨hx, hv⟩
  rw [a, bL_or, bL_crS _ 6 _ (Nat.le_refl _) (Nat.mod_lt _ (by decide)), (xor_d x s).1, (xor_d x s).2]
/-! how many -/
def bsum (P : Nat → Bool) : Nat → Nat
  | 0 => 0
  | n + 1 => bsum P n + (if P n then 1 else 0)
theorem bsum_cong {P R : Nat → Bool} : ∀ n, (∀ i, i < n → P i = R i) → bsum P n = bsum R n
  | 0, _ => rfl
  | n + 1, h => by show bsum P n + _ = bsum R n + _; rw [bsum_cong n (fun i hi => h i (by omega)), h n (Nat.lt_succ_self n)]
theorem bsum_le (P : Nat → Bool) : ∀ n, bsum P n ≤ n
  | 0 => Nat.le_refl 0
  | n + 1 => by have := bsum_le P n; show bsum P n + _ ≤ n + 1; split <;> omega
theorem bsum_add (P : Nat → Bool) (m : Nat) : ∀ n, bsum P (m + n) = bsum P m + bsum (fun i => P (m + i)) n
  | 0 => rfl
  | n + 1 => by show bsum P (m + n) + _ = _; rw [bsum_add P m n, Nat.add_assoc]; rfl
theorem bsum_or {P R : Nat → Bool} : ∀ n, (∀ i, i < n → P i = true → R i = false) → bsum (fun i => P i || R i) n = bsum P n + bsum R n
  | 0, _ => rfl
  | n + 1, h => by
    show bsum (fun i => P i || R i) n + (if (P n || R n) = true then 1 else 0) = bsum P n + (if P n = true then 1 else 0) + (bsum R n + (if R n = true then 1 else 0))
    rw [bsum_or n (fun i hi => h i (by omega))]
    have := h n (Nat.lt_succ_self n)
    cases hp : P n
    · cases hr : R n <;> simp <;> omega
    · rw [this hp]; simp; omega
theorem pow_xor {m i : Nat} (hi : i < 2 ^ m) : 2 ^ m + i = 2 ^ m ^^^ i := by
  apply Nat.eq_of_testBit_eq
  intro j
  have := Nat.testBit_two_pow_mul_add 1 hi j
  rw [Nat.mul_one] at this
  rw [this, Nat.testBit_xor, Nat.testBit_two_pow]
  by_cases q : j < m
  · simp [q, show ¬ m = j by omega]
  · rw [if_neg q]
    have z : i.testBit j = false := Nat.testBit_lt_two_pow (Nat.lt_of_lt_of_le hi (Nat.pow_le_pow_right (by decide) (by omega)))
    rw [z]
    by_cases q2 : m = j
    · subst q2; simp
    · have z1 : Nat.testBit 1 (j - m) = false := Nat.testBit_two_pow_of_ne (n := 0) (by omega)
      rw [z1, decide_eq_false q2]; rfl
theorem bsum_xor : ∀ (m : Nat) (P : Nat → Bool) (s : Nat), s < 2 ^ m → bsum (fun x => P (x ^^^ s)) (2 ^ m) = bsum P (2 ^ m)
  | 0, P, s, hs => by
    have e : s = 0 := by simpa using hs
    subst e
    exact bsum_cong _ (fun i _ => by rw [Nat.xor_zero])
  | m + 1, P, s, hs => by
    have e2 : 2 ^ (m + 1) = 2 ^ m + 2 ^ m := by rw [Nat.pow_succ]; omega
    rw [e2, bsum_add, bsum_add]
    rcases Nat.lt_or_ge s (2 ^ m) with q | q
    · rw [bsum_xor m P s q]
      congr 1
      rw [← bsum_xor m (fun i => P (2 ^ m + i)) s q]
      refine bsum_cong _ fun i hi => ?_
      show P ((2 ^ m + i) ^^^ s) = P (2 ^ m + (i ^^^ s))
      rw [pow_xor hi, pow_xor (Nat.xor_lt_two_pow hi q), Nat.xor_assoc]
    · obtain ⟨t, ht⟩ : ∃ t, s = 2 ^ m + t := ⟨s - 2 ^ m, by omega⟩
      have ht2 : t < 2 ^ m := by omega
      subst ht
      have a1 : bsum (fun x => P (x ^^^ (2 ^ m + t))) (2 ^ m) = bsum (fun i => P (2 ^ m + i)) (2 ^ m) := by
        rw [← bsum_xor m (fun i => P (2 ^ m + i)) t ht2]
        refine bsum_cong _ fun i hi => ?_
        show P (i ^^^ (2 ^ m + t)) = P (2 ^ m + (i ^^^ t))
        rw [pow_xor ht2, pow_xor (Nat.xor_lt_two_pow hi ht2), ← Nat.xor_assoc, Nat.xor_comm i, Nat.xor_assoc]
      have a2 : bsum (fun i => P ((2 ^ m + i) ^^^ (2 ^ m + t))) (2 ^ m) = bsum P (2 ^ m) := by
        rw [← bsum_xor m P t ht2]
        refine bsum_cong _ fun i hi => ?_
        show P ((2 ^ m + i) ^^^ (2 ^ m + t)) = P (i ^^^ t)
        rw [pow_xor ht2, pow_xor hi, Nat.xor_comm (2 ^ m) i, Nat.xor_assoc, ← Nat.xor_assoc (2 ^ m), Nat.xor_self, Nat.zero_xor]
      rw [a1, a2, Nat.add_comm]
def pcW (f : Nat → Int64) : Nat → Nat
  | 0 => 0
  | n + 1 => pcW f n + bsum (bL (f n)) 64
theorem pcW_eq (f : Nat → Int64) : ∀ n, pcW f n = bsum (bM f) (64 * n)
  | 0 => rfl
  | n + 1 => by
    show pcW f n + _ = _
    rw [pcW_eq f n, Nat.mul_succ, bsum_add]
    congr 1
    refine bsum_cong _ fun i hi => ?_
    unfold bM
    rw [show (64 * n + i) / 64 = n by omega, show (64 * n + i) % 64 = i by omega]
theorem sml_nI {m : Nat} (hm : m ≤ 31) {x : Int32} (h : sml m x) : ∃ s, s < 2 ^ m ∧ x = nI s := by
  refine ⟨x.toBitVec.toNat, ?_, ?_⟩
  · refine Nat.lt_pow_two_of_testBit _ fun i hi => ?_
    exact h i hi
  · exact b_ext fun i hi => by rw [bt_nI _ hi]; rfl
theorem sml_of {m s : Nat} (hs : s < 2 ^ m) : sml m (nI s) := fun j hj => by
  rcases Nat.lt_or_ge j 32 with q | q
  · rw [bt_nI s q]; exact Nat.testBit_lt_two_pow (Nat.lt_of_lt_of_le hs (Nat.pow_le_pow_right (by decide) hj))
  · exact b_big q
theorem bs_pow {c : Nat → Bool} {S : Nat → Int32} {m : Nat} (hm : m ≤ 16) : ∀ n, (∀ a, a < n → c a = true → sml m (S a)) → bsum (fun x => decide (red (rws c S n) 16 (nI x) = 0)) (2 ^ m) = 2 ^ cnt c S n
  | 0, _ => by
    obtain ⟨k, hk⟩ : ∃ k, 2 ^ m = 1 + k := ⟨2 ^ m - 1, by have := Nat.two_pow_pos m; omega⟩
    have hmm : 2 ^ m ≤ 2 ^ 16 := Nat.pow_le_pow_right (by decide) hm
    rw [hk, bsum_add]
    have z : bsum (fun i => decide (red (rws c S 0) 16 (nI (1 + i)) = 0)) k = 0 := by
      rw [bsum_cong (R := fun _ => false) k (fun i hi => decide_eq_false (fun q => by
        have q' : red (fun _ => 0) 16 (nI (1 + i)) = 0 := q
        rw [red_0] at q'
        have := (nI_eq0 (j := 1 + i) (by have : (2 : Nat) ^ 16 < 2 ^ 31 := by decide
                                         omega)).mp q'
        omega))]
      clear hk
      induction k with
      | zero => rfl
      | succ k ih => exact ih
    rw [z]
    show (0 + if decide (red (fun _ => 0) 16 (nI 0) = 0) = true then 1 else 0) + 0 = 1
    rw [red_0]; rfl
  | n + 1, h => by
    have ih := bs_pow hm n (fun a ha => h a (by omega))
    have h16 : ∀ a, a < n + 1 → c a = true → sml 16 (S a) := fun a ha hc j hj => h a ha hc j (by omega)
    obtain ⟨hE, hk⟩ := rws_ok (c := c) (S := S) n (fun a ha => h16 a (by omega))
    show bsum (fun x => decide (red (if c n = true then lrF (rws c S n) 16 (S n) else rws c S n) 16 (nI x) = 0)) (2 ^ m) = 2 ^ (cnt c S n + (if c n = true then lrG (rws c S n) 16 (S n) else 0))
    by_cases hc : c n = true
    · rw [if_pos hc, if_pos hc, lr_gr hE 16 _ (Nat.le_refl _) (h16 n (Nat.lt_succ_self n) hc)]
      have key : ∀ y, red (lrF (rws c S n) 16 (S n)) 16 y = 0 ↔ red (rws c S n) 16 y = 0 ∨ red (rws c S n) 16 (y ^^^ S n) = 0 := lr_ker hE 16 _ (Nat.le_refl _) (h16 n (Nat.lt_succ_self n) hc)
      by_cases q : red (rws c S n) 16 (S n) = 0
      · rw [if_pos q, Nat.add_zero, ← ih]
        refine bsum_cong _ fun x _ => ?_
        refine decide_eq_decide.mpr ((key _).trans ⟨fun z => z.elim id (fun z => ?_), Or.inl⟩)
        rw [red_x, q, xor_0] at z; exact z
      · rw [if_neg q, Nat.pow_succ, ← ih]
        obtain ⟨s, hs, es⟩ := sml_nI (by omega) (h n (Nat.lt_succ_self n) hc)
        have e1 : bsum (fun x => decide (red (lrF (rws c S n) 16 (S n)) 16 (nI x) = 0)) (2 ^ m) = bsum (fun x => decide (red (rws c S n) 16 (nI x) = 0) || decide (red (rws c S n) 16 (nI (x ^^^ s)) = 0)) (2 ^ m) := by
          refine bsum_cong _ fun x _ => ?_
          rw [← Bool.decide_or]
          refine decide_eq_decide.mpr ((key _).trans ?_)
          rw [es, nI_xor]
        rw [e1, bsum_or _ (fun x _ hx => decide_eq_false (fun z => q (by
          have hx' := of_decide_eq_true hx
          rw [← nI_xor, ← es, red_x, hx', x_0y] at z
          exact z))), bsum_xor m (fun x => decide (red (rws c S n) 16 (nI x) = 0)) s hs]
        omega
    · rw [if_neg hc, if_neg hc, Nat.add_zero]; exact ih
