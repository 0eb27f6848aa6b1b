/-! how many places of a word are set -/
def Kc (c : Nat) : Nat → Nat
  | 0 => 0
  | n + 1 => c + 256 * Kc c n
def mp (g : Nat → Nat) : Nat → Nat → Nat
  | 0, _ => 0
  | n + 1, N => g (N % 256) + 256 * mp g n (N / 256)
theorem dg_and {b c y M : Nat} (hb : b < 256) (hc : c < 256) : (b + 256 * y) &&& (c + 256 * M) = (b &&& c) + 256 * (y &&& M) := by
  apply Nat.eq_of_testBit_eq
  intro j
  have hbc : b &&& c < 2 ^ 8 := Nat.and_lt_two_pow _ hc
  have e1 := Nat.testBit_two_pow_mul_add y (i := 8) hb j
  have e2 := Nat.testBit_two_pow_mul_add M (i := 8) hc j
  have e3 := Nat.testBit_two_pow_mul_add (y &&& M) (i := 8) hbc j
  rw [show b + 256 * y = 2 ^ 8 * y + b by omega, show c + 256 * M = 2 ^ 8 * M + c by omega, show (b &&& c) + 256 * (y &&& M) = 2 ^ 8 * (y &&& M) + (b &&& c) by omega, Nat.testBit_and, e1, e2, e3]
  split
  · rw [Nat.testBit_and]
  · rw [Nat.testBit_and]
theorem kd1 : ∀ b, b < 256 → ∀ e, e < 2 → (b / 2 + 128 * e) &&& 0x55 = (b / 2) &&& 0x55 := by decide +kernel
theorem kd2 : ∀ b, b < 256 → ∀ e, e < 4 → (b / 4 + 64 * e) &&& 0x33 = (b / 4) &&& 0x33 := by decide +kernel
theorem kd3 : ∀ b, b < 256 → b % 16 ≤ 4 → b / 16 ≤ 4 → ∀ e, e < 5 → (b + b / 16 + 16 * e) &&& 0x0f = (b + b / 16) &&& 0x0f ∧ b + b / 16 + 16 * e < 256 := by decide +kernel
theorem kle : ∀ b, b < 256 → (b / 2) &&& 0x55 ≤ b := by decide +kernel
def d1 (b : Nat) : Nat := b - ((b / 2) &&& 0x55)
def d2 (b : Nat) : Nat := (b &&& 0x33) + ((b / 4) &&& 0x33)
def d3 (b : Nat) : Nat := (b + b / 16) &&& 0x0f
theorem kpop : ∀ b, b < 256 → d1 b < 256 ∧ d2 (d1 b) < 256 ∧ d2 (d1 b) % 16 ≤ 4 ∧ d2 (d1 b) / 16 ≤ 4 ∧ d3 (d2 (d1 b)) = bsum b.testBit 8 := by decide +kernel
theorem sw1 : ∀ (n N : Nat), N < 256 ^ n → (N / 2) &&& Kc 0x55 n ≤ N ∧ N - ((N / 2) &&& Kc 0x55 n) = mp d1 n N
  | 0, N, h => by
    have : N = 0 := by simpa using h
    subst this; exact ⟨by decide, rfl⟩
  | n + 1, N, h => by
    have hq : N / 256 < 256 ^ n := by rw [Nat.pow_succ] at h; omega
    obtain ⟨i1, i2⟩ := sw1 n (N / 256) hq
    have hr : N % 256 < 256 := Nat.mod_lt _ (by decide)
    have e0 : N / 2 = ((N % 256) / 2 + 128 * (N / 256 % 2)) + 256 * (N / 256 / 2) := by omega
    have e1 : (N / 2) &&& Kc 0x55 (n + 1) = (((N % 256) / 2) &&& 0x55) + 256 * ((N / 256 / 2) &&& Kc 0x55 n) := by
      rw [e0]
      show _ &&& (0x55 + 256 * Kc 0x55 n) = _
      rw [dg_and (by omega) (by decide), kd1 _ hr _ (Nat.mod_lt _ (by decide))]
    have l := kle _ hr
    rw [e1]
    refine ⟨by omega, ?_⟩
    show _ = d1 (N % 256) + 256 * mp d1 n (N / 256)
    rw [← i2]
    unfold d1
    omega
theorem sw2 : ∀ (n N : Nat), N < 256 ^ n → (N &&& Kc 0x33 n) + ((N / 4) &&& Kc 0x33 n) = mp d2 n N
  | 0, N, h => by
    have : N = 0 := by simpa using h
    subst this; rfl
  | n + 1, N, h => by
    have hq : N / 256 < 256 ^ n := by rw [Nat.pow_succ] at h; omega
    have ih := sw2 n (N / 256) hq
    have hr : N % 256 < 256 := Nat.mod_lt _ (by decide)
    have e0 : N / 4 = ((N % 256) / 4 + 64 * (N / 256 % 4)) + 256 * (N / 256 / 4) := by omega
    have e1 : (N / 4) &&& Kc 0x33 (n + 1) = (((N % 256) / 4) &&& 0x33) + 256 * ((N / 256 / 4) &&& Kc 0x33 n) := by
      rw [e0]
      show _ &&& (0x33 + 256 * Kc 0x33 n) = _
      rw [dg_and (by omega) (by decide), kd2 _ hr _ (Nat.mod_lt _ (by decide))]
    have e2 : N &&& Kc 0x33 (n + 1) = ((N % 256) &&& 0x33) + 256 * ((N / 256) &&& Kc 0x33 n) := by
      have e3 : N = N % 256 + 256 * (N / 256) := by omega
      have := dg_and (y := N / 256) (M := Kc 0x33 n) hr (show 0x33 < 256 by decide)
      rw [← e3] at this
      exact this
    rw [e1, e2]
    show _ = d2 (N % 256) + 256 * mp d2 n (N / 256)
    rw [← ih]
    unfold d2
    omega
theorem sw3 : ∀ (n N : Nat) (g : Nat → Nat), (∀ b, b < 256 → g b < 256 ∧ g b % 16 ≤ 4 ∧ g b / 16 ≤ 4) → N < 256 ^ n → (mp g n N + mp g n N / 16) &&& Kc 0x0f n = mp (fun b => d3 (g b)) n N
  | 0, N, g, hg, h => (by decide : (0 + 0 / 16) &&& 0 = 0)
  | n + 1, N, g, hg, h => by
    have hq : N / 256 < 256 ^ n := by rw [Nat.pow_succ] at h; omega
    have ih := sw3 n (N / 256) g hg hq
    have hr : N % 256 < 256 := Nat.mod_lt _ (by decide)
    obtain ⟨g1, g2, g3⟩ := hg _ hr
    have hm : mp g n (N / 256) % 16 < 5 := by
      cases n with
      | zero => exact (by decide : (0 : Nat) % 16 < 5)
      | succ n =>
        have := (hg _ (Nat.mod_lt (N / 256) (by decide : 0 < 256))).2.1
        show (g (N / 256 % 256) + 256 * _) % 16 < 5
        omega
    obtain ⟨k1, k2⟩ := kd3 _ g1 g2 g3 _ hm
    have e0 : mp g (n + 1) N + mp g (n + 1) N / 16 = (g (N % 256) + g (N % 256) / 16 + 16 * (mp g n (N / 256) % 16)) + 256 * (mp g n (N / 256) + mp g n (N / 256) / 16) := by
      show (g (N % 256) + 256 * mp g n (N / 256)) + (g (N % 256) + 256 * mp g n (N / 256)) / 16 = _
      omega
    rw [e0]
    show _ &&& (0x0f + 256 * Kc 0x0f n) = d3 (g (N % 256)) + 256 * mp _ n (N / 256)
    rw [dg_and k2 (by decide), k1, ih]
    rfl
theorem mp_mp {g h : Nat → Nat} (hh : ∀ b, b < 256 → h b < 256) : ∀ (n N : Nat), mp g n (mp h n N) = mp (fun b => g (h b)) n N
  | 0, _ => rfl
  | n + 1, N => by
    have hr := hh _ (Nat.mod_lt N (by decide : 0 < 256))
    show g ((h (N % 256) + 256 * mp h n (N / 256)) % 256) + 256 * mp g n ((h (N % 256) + 256 * mp h n (N / 256)) / 256) = _
    rw [show (h (N % 256) + 256 * mp h n (N / 256)) % 256 = h (N % 256) by omega, show (h (N % 256) + 256 * mp h n (N / 256)) / 256 = mp h n (N / 256) by omega, mp_mp hh n]
    rfl
theorem mp_cong {g h : Nat → Nat} (hh : ∀ b, b < 256 → g b = h b) : ∀ (n N : Nat), mp g n N = mp h n N
  | 0, _ => rfl
  | n + 1, N => by
    show g _ + 256 * mp g n _ = h _ + 256 * mp h n _
    rw [hh _ (Nat.mod_lt _ (by decide)), mp_cong hh n]
theorem mp_lt {g : Nat → Nat} (hh : ∀ b, b < 256 → g b < 256) : ∀ (n N : Nat), mp g n N < 256 ^ n
  | 0, _ => (by decide : (0 : Nat) < 256 ^ 0)
  | n + 1, N => by
    have h1 := hh _ (Nat.mod_lt N (by decide : 0 < 256))
    have h2 := mp_lt hh n (N / 256)
    show g _ + 256 * mp g n _ < _
    rw [Nat.pow_succ]; omega
def pop8 (b : Nat) : Nat := bsum b.testBit 8
theorem sw_all {N : Nat} (h : N < 256 ^ 8) : ((mp d2 8 (mp d1 8 N)) + (mp d2 8 (mp d1 8 N)) / 16) &&& Kc 0x0f 8 = mp pop8 8 N := by
  rw [mp_mp (fun b hb => (kpop b hb).1), sw3 8 N _ (fun b hb => ⟨(kpop b hb).2.1, (kpop b hb).2.2.1, (kpop b hb).2.2.2.1⟩) h]
  exact mp_cong (fun b hb => (kpop b hb).2.2.2.2) 8 N
def fold8 (i : Nat) : Nat := (((i + i / 256) + (i + i / 256) / 65536) + ((i + i / 256) + (i + i / 256) / 65536) / 4294967296) % 128
def sm8 (g : Nat → Nat) : Nat → Nat → Nat
  | 0, _ => 0
  | n + 1, N => g (N % 256) + sm8 g n (N / 256)
theorem fold_ok {g : Nat → Nat} (hg : ∀ b, b < 256 → g b ≤ 8) (N : Nat) : fold8 (mp g 8 N) = sm8 g 8 N ∧ ((mp g 8 N + mp g 8 N / 256) + (mp g 8 N + mp g 8 N / 256) / 65536) + ((mp g 8 N + mp g 8 N / 256) + (mp g 8 N + mp g 8 N / 256) / 65536) / 4294967296 < 2 ^ 64 := by
  have h : ∀ M, g (M % 256) ≤ 8 := fun M => hg _ (Nat.mod_lt _ (by decide))
  unfold fold8
  simp only [mp, sm8]
  have h0 := h N
  have h1 := h (N / 256)
  have h2 := h (N / 256 / 256)
  have h3 := h (N / 256 / 256 / 256)
  have h4 := h (N / 256 / 256 / 256 / 256)
  have h5 := h (N / 256 / 256 / 256 / 256 / 256)
  have h6 := h (N / 256 / 256 / 256 / 256 / 256 / 256)
  have h7 := h (N / 256 / 256 / 256 / 256 / 256 / 256 / 256)
  generalize g (N % 256) = b0 at *
  generalize g (N / 256 % 256) = b1 at *
  generalize g (N / 256 / 256 % 256) = b2 at *
  generalize g (N / 256 / 256 / 256 % 256) = b3 at *
  generalize g (N / 256 / 256 / 256 / 256 % 256) = b4 at *
  generalize g (N / 256 / 256 / 256 / 256 / 256 % 256) = b5 at *
  generalize g (N / 256 / 256 / 256 / 256 / 256 / 256 % 256) = b6 at *
  generalize g (N / 256 / 256 / 256 / 256 / 256 / 256 / 256 % 256) = b7 at *
  clear h hg
  obtain ⟨y7, e7⟩ : ∃ y, y = b7 + 256 * 0 := ⟨_, rfl⟩
  obtain ⟨y6, e6⟩ : ∃ y, y = b6 + 256 * y7 := ⟨_, rfl⟩
  obtain ⟨y5, e5⟩ : ∃ y, y = b5 + 256 * y6 := ⟨_, rfl⟩
  obtain ⟨y4, e4⟩ : ∃ y, y = b4 + 256 * y5 := ⟨_, rfl⟩
  obtain ⟨y3, e3⟩ : ∃ y, y = b3 + 256 * y4 := ⟨_, rfl⟩
  obtain ⟨y2, e2⟩ : ∃ y, y = b2 + 256 * y3 := ⟨_, rfl⟩
  obtain ⟨y1, e1⟩ : ∃ y, y = b1 + 256 * y2 := ⟨_, rfl⟩
  obtain ⟨y0, e0⟩ : ∃ y, y = b0 + 256 * y1 := ⟨_, rfl⟩
  rw [← e7, ← e6, ← e5, ← e4, ← e3, ← e2, ← e1, ← e0]
  have d0 : y0 / 256 = y1 := by omega
  rw [d0]
  have dA : (y0 + y1) / 65536 = y2 + y3 := by
    have a1 : y0 + y1 = (b0 + b1 + 256 * (b1 + b2)) + 65536 * (y2 + y3) := by omega
    omega
  rw [dA]
  have dB : (y0 + y1 + (y2 + y3)) / 4294967296 = y4 + y5 + (y6 + y7) := by
    have a0 : y0 = (b0 + 256 * b1 + 65536 * b2 + 16777216 * b3) + 4294967296 * y4 := by omega
    have a1 : y1 = (b1 + 256 * b2 + 65536 * b3 + 16777216 * b4) + 4294967296 * y5 := by omega
    have a2 : y2 = (b2 + 256 * b3 + 65536 * b4 + 16777216 * b5) + 4294967296 * y6 := by omega
    have a3 : y3 = (b3 + 256 * b4 + 65536 * b5 + 16777216 * b6) + 4294967296 * y7 := by omega
    have q0 : b0 + 256 * b1 + 65536 * b2 + 16777216 * b3 ≤ 150000000 := by omega
    have q1 : b1 + 256 * b2 + 65536 * b3 + 16777216 * b4 ≤ 150000000 := by omega
    have q2 : b2 + 256 * b3 + 65536 * b4 + 16777216 * b5 ≤ 150000000 := by omega
    have q3 : b3 + 256 * b4 + 65536 * b5 + 16777216 * b6 ≤ 150000000 := by omega
    generalize b0 + 256 * b1 + 65536 * b2 + 16777216 * b3 = r0 at *
    generalize b1 + 256 * b2 + 65536 * b3 + 16777216 * b4 = r1 at *
    generalize b2 + 256 * b3 + 65536 * b4 + 16777216 * b5 = r2 at *
    generalize b3 + 256 * b4 + 65536 * b5 + 16777216 * b6 = r3 at *
    clear e0 e1 e2 e3 e4 e5 e6 e7 dA d0 h0 h1 h2 h3 h4 h5 h6 h7
    omega
  rw [dB]
  have hs : ∀ k, k = b0 + (b1 + (b2 + (b3 + (b4 + (b5 + (b6 + (b7 + 0))))))) → k < 128 := fun k hk => by omega
  have u7 : y7 < 10 := by omega
  have u6 : y6 < 10 * 256 := by omega
  have u5 : y5 < 10 * 65536 := by omega
  have u4 : y4 < 10 * 16777216 := by omega
  have u3 : y3 < 10 * 4294967296 := by omega
  have u2 : y2 < 10 * 1099511627776 := by omega
  have u1 : y1 < 10 * 281474976710656 := by omega
  have u0 : y0 < 10 * 72057594037927936 := by omega
  refine ⟨?_, by omega⟩
  have z : y0 + y1 + (y2 + y3) + (y4 + y5 + (y6 + y7)) = (b0 + (b1 + (b2 + (b3 + (b4 + (b5 + (b6 + (b7 + 0)))))))) + 128 * (2 * (y1 + y2 + y3 + y4 + y5 + y6 + y7)) := by omega
  rw [z, Nat.add_mul_mod_self_left, Nat.mod_eq_of_lt (hs _ rfl), e7]
theorem sm_bs : ∀ (n N : Nat), sm8 pop8 n N = bsum N.testBit (8 * n)
  | 0, _ => rfl
  | n + 1, N => by
    show pop8 (N % 256) + sm8 pop8 n (N / 256) = _
    rw [sm_bs n, show 8 * (n + 1) = 8 + 8 * n by omega, bsum_add]
    congr 1
    · refine bsum_cong _ fun i hi => ?_
      rw [show (256 : Nat) = 2 ^ 8 from rfl, Nat.testBit_mod_two_pow]; simp [hi]
    · refine bsum_cong _ fun i hi => ?_
      rw [show (256 : Nat) = 2 ^ 8 from rfl, Nat.testBit_div_two_pow, Nat.add_comm]
/-! the same of words -/
def sh9 (x : Int64) (y : Int32) : Int64 := (x.toUInt64 >>> (y.toInt64.toUInt64 &&& Int64.toUInt64 63)).toInt64
def bc1 (x : Int64) : Int64 := x - (sh9 x (nI 1) &&& 6148914691236517205)
def bc2 (x : Int64) : Int64 := (x &&& 3689348814741910323) + (sh9 x (nI 2) &&& 3689348814741910323)
def bc3 (x : Int64) : Int64 := (x + sh9 x (nI 4)) &&& 1085102592571150095
def bc4 (x : Int64) : Int64 := x + sh9 x (nI 8)
def bc5 (x : Int64) : Int64 := x + sh9 x (nI 16)
def bc6 (x : Int64) : Int64 := x + sh9 x (nI 32)
abbrev tn (x : Int64) : Nat := x.toBitVec.toNat
theorem tn_lt (x : Int64) : tn x < 2 ^ 64 := x.toBitVec.isLt
theorem tn_sh (x : Int64) {j : Nat} (hj : j < 64) : tn (sh9 x (nI j)) = tn x / 2 ^ j := by
  unfold tn sh9
  rw [bL_shr x (nI j) j (sK j hj), BitVec.toNat_ushiftRight, Nat.shiftRight_eq_div_pow]
theorem tn_and (x y : Int64) : tn (x &&& y) = tn x &&& tn y := by unfold tn; rw [Int64.toBitVec_and, BitVec.toNat_and]
theorem tn_add {x y : Int64} (h : tn x + tn y < 2 ^ 64) : tn (x + y) = tn x + tn y := by unfold tn at *; rw [Int64.toBitVec_add, BitVec.toNat_add, Nat.mod_eq_of_lt h]
theorem tn_sub {x y : Int64} (h : tn y ≤ tn x) : tn (x - y) = tn x - tn y := by unfold tn at *; rw [Int64.toBitVec_sub, BitVec.toNat_sub_of_le h]
theorem tk1 : tn (6148914691236517205 : Int64) = Kc 0x55 8 := by decide +kernel
theorem tk2 : tn (3689348814741910323 : Int64) = Kc 0x33 8 := by decide +kernel
theorem tk3 : tn (1085102592571150095 : Int64) = Kc 0x0f 8 := by decide +kernel
theorem bc_ok (x : Int64) : ((bc6 (bc5 (bc4 (bc3 (bc2 (bc1 x)))))).toInt32 &&& nI 127) = nI (bsum (bL x) 64) := by
  have h256 : (256 : Nat) ^ 8 = 2 ^ 64 := by decide
  have hN : tn x < 256 ^ 8 := by rw [h256]; exact tn_lt x
  obtain ⟨s1, s2⟩ := sw1 8 (tn x) hN
  have l1 : ∀ b, b < 256 → d1 b < 256 := fun b hb => (kpop b hb).1
  have l2 : ∀ b, b < 256 → d2 (d1 b) < 256 := fun b hb => (kpop b hb).2.1
  have t1 : tn (bc1 x) = mp d1 8 (tn x) := by
    have e : tn (sh9 x (nI 1) &&& 6148914691236517205) = (tn x / 2) &&& Kc 0x55 8 := by rw [tn_and, tn_sh x (by decide), tk1, Nat.pow_one]
    unfold bc1
    rw [tn_sub (by rw [e]; exact s1), e, s2]
  have hm1 : mp d1 8 (tn x) < 256 ^ 8 := mp_lt l1 8 _
  have t2 : tn (bc2 (bc1 x)) = mp d2 8 (mp d1 8 (tn x)) := by
    have e := sw2 8 _ hm1
    have e1 : tn (bc1 x &&& 3689348814741910323) = mp d1 8 (tn x) &&& Kc 0x33 8 := by rw [tn_and, t1, tk2]
    have e2 : tn (sh9 (bc1 x) (nI 2) &&& 3689348814741910323) = (mp d1 8 (tn x) / 4) &&& Kc 0x33 8 := by rw [tn_and, tn_sh _ (by decide), t1, tk2]
    have lt : mp d2 8 (mp d1 8 (tn x)) < 2 ^ 64 := by rw [mp_mp l1, ← h256]; exact mp_lt l2 8 _
    unfold bc2
    rw [tn_add (by rw [e1, e2, e]; exact lt), e1, e2, e]
  have lt2 : mp d2 8 (mp d1 8 (tn x)) < 256 ^ 8 := by rw [mp_mp l1]; exact mp_lt l2 8 _
  have t3 : tn (bc3 (bc2 (bc1 x))) = mp pop8 8 (tn x) := by
    have e2 : tn (sh9 (bc2 (bc1 x)) (nI 4)) = mp d2 8 (mp d1 8 (tn x)) / 16 := by rw [tn_sh _ (by decide), t2]
    have hs : mp d2 8 (mp d1 8 (tn x)) + mp d2 8 (mp d1 8 (tn x)) / 16 < 2 ^ 64 := by
      have l3 : ∀ b, b < 256 → d2 (d1 b) ≤ 68 := fun b hb => by have := (kpop b hb).2.2.1; have := (kpop b hb).2.2.2.1; omega
      have hb : ∀ n M, 255 * mp (fun b => d2 (d1 b)) n M + 68 ≤ 68 * 256 ^ n := by
        intro n
        induction n with
        | zero => intro M; exact Nat.le_refl _
        | succ n ih =>
          intro M
          have l4 := l3 _ (Nat.mod_lt M (by decide : 0 < 256))
          have q := ih (M / 256)
          show 255 * (d2 (d1 (M % 256)) + 256 * mp _ n (M / 256)) + 68 ≤ _
          rw [Nat.pow_succ]; omega
      have hb8 := hb 8 (tn x)
      rw [mp_mp l1]
      rw [h256] at hb8
      omega
    unfold bc3
    rw [tn_and, tn_add (by rw [t2, e2]; exact hs), t2, e2, tk3, sw_all hN]
  have hp : ∀ b, b < 256 → pop8 b ≤ 8 := fun b _ => bsum_le _ 8
  obtain ⟨f1, f2⟩ := fold_ok hp (tn x)
  have t4 : tn (bc4 (bc3 (bc2 (bc1 x)))) = mp pop8 8 (tn x) + mp pop8 8 (tn x) / 256 := by
    unfold bc4
    rw [tn_add (by rw [tn_sh _ (by decide), t3]; omega), tn_sh _ (by decide), t3]
  have t5 : tn (bc5 (bc4 (bc3 (bc2 (bc1 x))))) = (mp pop8 8 (tn x) + mp pop8 8 (tn x) / 256) + (mp pop8 8 (tn x) + mp pop8 8 (tn x) / 256) / 65536 := by
    unfold bc5
    rw [tn_add (by rw [tn_sh _ (by decide), t4]; omega), tn_sh _ (by decide), t4]
  have t6 : tn (bc6 (bc5 (bc4 (bc3 (bc2 (bc1 x)))))) % 128 = bsum (bL x) 64 := by
    unfold bc6
    rw [tn_add (by rw [tn_sh _ (by decide), t5]; exact f2), tn_sh _ (by decide), t5]
    rw [show bsum (bL x) 64 = sm8 pop8 8 (tn x) from (sm_bs 8 (tn x)).symm, ← f1]
    rfl
  rw [← t6]
  refine b_ext fun i hi => ?_
  rw [b_and, bt_nI 127 hi, bt_nI _ hi, show (128 : Nat) = 2 ^ 7 from rfl, show (127 : Nat) = 2 ^ 7 - 1 from rfl, Nat.testBit_mod_two_pow, Nat.testBit_two_pow_sub_one, Bool.and_comm]
  congr 1
  unfold bt
  rw [Int64.toBitVec_toInt32]
  rw [BitVec.getLsbD_signExtend]; simp [hi, show i < 64 by omega, BitVec.getLsbD]
