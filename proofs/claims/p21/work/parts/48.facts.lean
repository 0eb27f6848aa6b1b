/-! what isSo asks of a room's state -/
section IFM
variable {nf np na nw : Nat} {sg : Nat → Nat → Nat → Int32} {rc : Nat → Bool}
theorem sp_self {c : Nat → Bool} {S : Nat → Int32} {a : Nat} : ∀ n, a < n → c a = true → spn c S n (S a)
  | 0, h, _ => absurd h (Nat.not_lt_zero a)
  | n + 1, h, k => by
    by_cases e : a = n
    · subst e
      exact Or.inr ⟨k, by rw [xor_x]; exact sp_0 a⟩
    · exact Or.inl (sp_self n (by omega) k)
theorem sp_no {S : Nat → Int32} {c : Nat → Bool} (h : ∀ a, c a = false) {y : Int32} : ∀ n, spn c S n y → y = 0
  | 0, k => k
  | n + 1, k => by
    rcases k with k | ⟨k, -⟩
    · exact sp_no h n k
    · rw [h n] at k; cases k
theorem cC_0 {KF : Nat → Nat → Int32} {bit x : Int32} : ∀ n, (∀ b, b < n → cov bit b = true → red (KF b) 16 x = 0) → cC KF bit x n = 0
  | 0, _ => rfl
  | n + 1, h => by
    show cC KF bit x n + (if (cov bit n && !decide (red (KF n) 16 x = 0)) = true then 1 else 0) = 0
    rw [cC_0 n (fun b hb => h b (by omega)), if_neg]
    intro q
    obtain ⟨q1, q2⟩ := Bool.and_eq_true_iff.mp q
    rw [decide_eq_true (h n (Nat.lt_succ_self n) q1)] at q2
    cases q2
theorem set16 (hI : INV nf np na nw sg rc) {a : Nat} (ha : a < na) : sml 16 (sg 8 a 0) := by
  obtain ⟨v16, v6, v150, vnow, vA, -⟩ := hI
  exact fun j hj => (vA a ha).2.1 j (by omega)
/-- a standing answer's question costs nothing -/
theorem so_cost (hI : INV nf np na nw sg rc) {a q : Nat} (ha : a < na) (hr : rc a = false) (hq : sg 7 a 0 = nI q) : cC (KFs sg rc na q) (sg 9 a 0) (sg 8 a 0) 8 = 0 := by
  refine cC_0 8 fun b hb hc => ?_
  refine ((rws_ok na (fun i hi _ => set16 hI hi)).2 (sg 8 a 0)).mpr (sp_self na ha ?_)
  unfold stdb
  rw [hr, decide_eq_true hq, hc]; rfl
/-- its question is one that may be asked -/
theorem q_rng {s n : Nat} (hn : n ≤ 16) (h0 : 0 < s) (hs : s < 2 ^ n) : nI 1 ≤ nI s ∧ nI s ≤ (nI 1 <<< (nI n &&& 31)) - nI 1 := by
  have h2 : 2 ^ n ≤ 2 ^ 16 := Nat.pow_le_pow_right (by decide) hn
  obtain ⟨k, hk⟩ : ∃ k, 2 ^ n = k + 1 := ⟨2 ^ n - 1, by omega⟩
  rw [q_sh n hn, hk, dI_sub, dI_s]
  exact ⟨nI_le h0 (by omega), nI_le (by omega) (by omega)⟩
theorem so_q (hI : INV nf np na nw sg rc) {a : Nat} (ha : a < na) (h0 : nI 0 < sg 8 a 0) : Qok nf (sg 8 a 0) (sg 9 a 0) := by
  obtain ⟨v16, v6, v150, vnow, vA, -⟩ := hI
  obtain ⟨-, h2, h3⟩ := vA a ha
  obtain ⟨s, hs, e⟩ := sml_nI (by omega) h2
  rw [e] at h0 ⊢
  have h5 : 0 < s := by
    rcases Nat.eq_zero_or_pos s with q | q
    · rw [q] at h0; exact absurd h0 (by decide)
    · exact q
  refine ⟨q_rng v16 h5 hs, ?_⟩
  rcases h3 with h | ⟨b, hb, h⟩
  · rw [h]; decide
  · rw [h]; exact ⟨Int32.le_trans (by decide : (-1 : Int32) ≤ nI 0) (nI_le (Nat.zero_le _) (by omega)), nI_le (by omega) (by omega)⟩
/-- no party spends more than all that there is -/
theorem so_128 (hI : INV nf np na nw sg rc) {p : Nat} : sC (KCs sg rc na p) 8 ≤ 128 := by
  refine sC_le (c := 16) (fun b => ?_) 8
  have h1 := bs_pow (c := stdb sg rc p b) (S := sets sg) (m := 16) (Nat.le_refl _) na (fun a ha _ => set16 hI ha)
  have h2 := bsum_le (fun x => decide (red (rws (stdb sg rc p b) (sets sg) na) 16 (nI x) = 0)) (2 ^ 16)
  rw [h1] at h2
  show cnt (stdb sg rc p b) (sets sg) na ≤ 16
  exact (Nat.pow_le_pow_iff_right (by decide)).mp h2
theorem cSt_bs {p : Nat} : ∀ n, cSt sg rc p n ≤ bsum (fun a => decide (sg 7 a 0 = nI p)) n
  | 0 => Nat.le_refl 0
  | n + 1 => by
    have k := cSt_bs (p := p) n
    show cSt sg rc p n + (if (!rc n && decide (sg 7 n 0 = nI p)) = true then 1 else 0) ≤ bsum _ n + (if decide (sg 7 n 0 = nI p) = true then 1 else 0)
    cases rc n <;> cases decide (sg 7 n 0 = nI p) <;> simp <;> omega
theorem so_cnt (hI : INV nf np na nw sg rc) (hJ : J2 nf np na sg) {p : Nat} (hp : p < np) : nI (cSt sg rc p na) ≤ sg 13 p 0 := by
  rw [hJ.2.2.2 p hp]
  have v150 : na ≤ 150 := hI.2.2.1
  have h2 := bsum_le (fun a => decide (sg 7 a 0 = nI p)) na
  exact nI_le (cSt_bs na) (by omega)
theorem bt_pw {p q : Nat} (hp : p ≤ 16) (hq : q < 32) : bt (nI 1 <<< (nI p &&& 31)) q = decide (p = q) := by
  rw [q_sh p hp, bt_nI _ hq, Nat.testBit_two_pow]
/-- who shares with nobody finds what it finds alone -/
theorem so_tog (hI : INV nf np na nw sg rc) {p : Nat} (hp : p < np) (y : Int32) : fBs (fun b => decide (red (shF (nI 1 <<< (nI p &&& 31)) (fun q => KFs sg rc na q b) np) 16 y = 0)) 8 = fBs (fun b => decide (red (KFs sg rc na p b) 16 y = 0)) 8 := by
  have v6 : np ≤ 6 := hI.2.1
  refine fBs_cong fun b hb => ?_
  have h1 := (sh_ok (xs := nI 1 <<< (nI p &&& 31)) (D := fun q => stdb sg rc q b) (S := sets sg) (n := na) (fun q a ha _ => set16 hI ha) np).2 y
  have h2 := (rws_ok (c := stdb sg rc p b) (S := sets sg) na (fun a ha _ => set16 hI ha)).2 y
  have e : (fun a => anyB (fun q => bt (nI 1 <<< (nI p &&& 31)) q && stdb sg rc q b a) np) = stdb sg rc p b := by
    funext a
    refine Bool.eq_iff_iff.mpr ((anyB_iff np).trans ?_)
    constructor
    · rintro ⟨i, hi, h⟩
      obtain ⟨h3, h4⟩ := Bool.and_eq_true_iff.mp h
      rw [bt_pw (by omega) (by omega)] at h3
      rw [of_decide_eq_true h3]; exact h4
    · intro h
      refine ⟨p, hp, ?_⟩
      show (bt (nI 1 <<< (nI p &&& 31)) p && stdb sg rc p b a) = true
      rw [h, bt_pw (by omega) (by omega), decide_eq_true rfl]; rfl
  rw [e] at h1
  exact decide_eq_decide.mpr (h1.trans h2.symm)
theorem so_no (hI : INV nf np na nw sg rc) {f : Nat} (hf : f ≤ 16) : fBs (fun b => decide (red (shF (nI 0) (fun q => KFs sg rc na q b) np) 16 (nI 1 <<< (nI f &&& 31)) = 0)) 8 = nI 0 := by
  have k : fBs (fun b => decide (red (shF (nI 0) (fun q => KFs sg rc na q b) np) 16 (nI 1 <<< (nI f &&& 31)) = 0)) 8 = fBs (fun _ => false) 8 := by
    refine fBs_cong fun b hb => ?_
    refine decide_eq_false fun q => ?_
    have h1 := ((sh_ok (xs := nI 0) (D := fun q => stdb sg rc q b) (S := sets sg) (n := na) (fun q a ha _ => set16 hI ha) np).2 _).mp q
    have h2 := sp_no (fun a => by
      refine Bool.eq_false_iff.mpr fun h => ?_
      obtain ⟨i, hi, h⟩ := (anyB_iff np).mp h
      obtain ⟨h3, -⟩ := Bool.and_eq_true_iff.mp h
      rw [show nI 0 = 0 from rfl, b_0] at h3
      cases h3) na h1
    rw [q_sh f hf] at h2
    have h4 : 2 ^ f ≤ 2 ^ 16 := Nat.pow_le_pow_right (by decide) hf
    have h5 := (nI_eq0 (j := 2 ^ f) (by omega)).mp h2
    have := Nat.two_pow_pos f
    omega
  rw [k]; rfl
theorem rng_0 (hp : np ≤ 16) : nI 0 ≤ nI 0 ∧ nI 0 ≤ (nI 1 <<< (nI np &&& 31)) - nI 1 := by
  have h2 : 2 ^ np ≤ 2 ^ 16 := Nat.pow_le_pow_right (by decide) hp
  have h3 := Nat.two_pow_pos np
  obtain ⟨k, hk⟩ : ∃ k, 2 ^ np = k + 1 := ⟨2 ^ np - 1, by omega⟩
  rw [q_sh np hp, hk, dI_sub, dI_s]
  exact ⟨Int32.le_refl _, nI_le (Nat.zero_le _) (by omega)⟩
theorem rng_p {p n : Nat} (hn : n ≤ 16) (hp : p < n) : nI 1 ≤ (nI 1 <<< (nI p &&& 31)) ∧ (nI 1 <<< (nI p &&& 31)) ≤ (nI 1 <<< (nI n &&& 31)) - nI 1 := by
  rw [q_sh p (by omega)]
  exact q_rng hn (Nat.two_pow_pos p) (Nat.pow_lt_pow_right (by decide) hp)
theorem and_no (x : Int32) : x &&& (x ^^^ (-1)) = 0 := b_ext fun i hi => by
  rw [b_and, b_xor, b_0]
  have : bt (-1) i = true := by
    have h : ∀ j, j < 32 → bt (-1) j = true := by decide
    exact h i hi
  rw [this]
  cases bt x i <;> rfl
/-- how many answers stand, by answers and by parties -/
def lvN (na : Nat) (rc : Nat → Bool) (n : Nat) : Nat := bsum (fun i => decide (i < na) && !rc i) n
def alN (np na : Nat) (sg : Nat → Nat → Nat → Int32) (rc : Nat → Bool) : Nat → Nat
  | 0 => 0
  | p + 1 => alN np na sg rc p + (if p < np then cSt sg rc p na else 0)
def alM (np : Nat) (sg : Nat → Nat → Nat → Int32) (rc : Nat → Bool) (n : Nat) : Nat → Nat
  | 0 => 0
  | p + 1 => alM np sg rc n p + (if p < np then cSt sg rc p n else 0)
theorem alM_eq : ∀ p, alM np sg rc na p = alN np na sg rc p
  | 0 => rfl
  | p + 1 => by show alM np sg rc na p + _ = alN np na sg rc p + _; rw [alM_eq p]
theorem alM_z : ∀ p, alM np sg rc 0 p = 0
  | 0 => rfl
  | p + 1 => by
    show alM np sg rc 0 p + (if p < np then 0 else 0) = 0
    rw [alM_z p]; split <;> rfl
theorem alM_s {n q : Nat} (hq : q < 6) (e : sg 7 n 0 = nI q) : ∀ p, p ≤ 6 → alM np sg rc (n + 1) p = alM np sg rc n p + (if q < p ∧ q < np ∧ rc n = false then 1 else 0)
  | 0, _ => by rw [if_neg (by omega)]; rfl
  | p + 1, h => by
    have k := alM_s hq e p (by omega)
    show alM np sg rc (n + 1) p + (if p < np then cSt sg rc p n + (if (!rc n && decide (sg 7 n 0 = nI p)) = true then 1 else 0) else 0) = alM np sg rc n p + (if p < np then cSt sg rc p n else 0) + _
    rw [k, e]
    by_cases c : q = p
    · subst c
      rw [decide_eq_true rfl, if_neg (by omega)]
      by_cases d : q < np
      · rw [if_pos d, if_pos d]
        cases rc n
        · rw [if_pos (by decide), if_pos ⟨by omega, d, rfl⟩]; omega
        · rw [if_neg (by decide), if_neg (by intro w; cases w.2.2)]; omega
      · rw [if_neg d, if_neg d, if_neg (fun w => d w.2.1)]
    · rw [decide_eq_false (fun w => c ((nI_eq (by omega) (by omega)).mp w)), Bool.and_false, if_neg (by decide : ¬ false = true), Nat.add_zero]
      have i1 : (q < p ∧ q < np ∧ rc n = false) ↔ (q < p + 1 ∧ q < np ∧ rc n = false) := ⟨fun w => ⟨by omega, w.2⟩, fun w => ⟨by omega, w.2⟩⟩
      have i2 : (if q < p ∧ q < np ∧ rc n = false then 1 else 0) = (if q < p + 1 ∧ q < np ∧ rc n = false then 1 else 0) := by
        by_cases w : q < p ∧ q < np ∧ rc n = false
        · rw [if_pos w, if_pos (i1.mp w)]
        · rw [if_neg w, if_neg (fun v => w (i1.mpr v))]
      rw [i2]
      omega
theorem alM_all (hI : INV nf np na nw sg rc) : ∀ n, n ≤ na → alM np sg rc n 6 = lvN na rc n
  | 0, _ => alM_z 6
  | n + 1, h => by
    have v6 : np ≤ 6 := hI.2.1
    obtain ⟨⟨q, hq, e⟩, -⟩ := hI.2.2.2.2.1 n (by omega)
    rw [alM_s (by omega) e 6 (Nat.le_refl _), alM_all hI n (by omega)]
    show _ = lvN na rc n + (if (decide (n < na) && !rc n) = true then 1 else 0)
    rw [decide_eq_true (by omega : n < na)]
    cases rc n
    · rw [if_pos ⟨by omega, hq, rfl⟩]; rfl
    · rw [if_neg (by intro w; cases w.2.2)]; rfl
theorem lvN_more : ∀ d, lvN na rc (na + d) = lvN na rc na
  | 0 => rfl
  | d + 1 => by
    show lvN na rc (na + d) + (if (decide (na + d < na) && !rc (na + d)) = true then 1 else 0) = _
    rw [lvN_more d, decide_eq_false (by omega)]; rfl
theorem so_all (hI : INV nf np na nw sg rc) : lvN na rc 150 = alN np na sg rc 6 := by
  have v150 : na ≤ 150 := hI.2.2.1
  rw [← alM_eq, alM_all hI na (Nat.le_refl _)]
  have := lvN_more (na := na) (rc := rc) (150 - na)
  rw [show na + (150 - na) = 150 by omega] at this
  exact this
theorem lvN_le (n : Nat) : lvN na rc n ≤ n := bsum_le _ n
theorem alN_le (hI : INV nf np na nw sg rc) : ∀ p, alN np na sg rc p ≤ p * 150
  | 0 => Nat.le_refl 0
  | p + 1 => by
    have v150 : na ≤ 150 := hI.2.2.1
    have k := alN_le hI p
    have k2 := cSt_le (sg := sg) (rc := rc) (p := p) na
    show alN np na sg rc p + _ ≤ (p + 1) * 150
    split <;> omega
end IFM
