/-! what every run keeps to, beside INV: sets are not empty, what was told is small, numbers have 8 bits, budgets, how many answers a party was told -/
def J2 (nf np na : Nat) (sg : Nat → Nat → Nat → Int32) : Prop :=
  (∀ a, a < na → nI 0 < sg 8 a 0 ∧ (sg 9 a 0 < 0 → sg 10 a 0 < nI 256) ∧ (¬ sg 9 a 0 < 0 → sg 10 a 0 < nI 2)) ∧
  (∀ i, i < nf → sml 8 (sg 1 i 0)) ∧ (∀ p, p < np → sg 3 p 0 ≠ -99999999) ∧
  ∀ p, p < np → sg 13 p 0 = nI (bsum (fun a => decide (sg 7 a 0 = nI p)) na)
section J2S
variable {nf np na nw : Nat} {sg sg' : Nat → Nat → Nat → Int32} {rc : Nat → Bool}
theorem J2_cong (h : J2 nf np na sg) (e1 : sg' 1 = sg 1) (e3 : sg' 3 = sg 3) (e7 : sg' 7 = sg 7) (e8 : sg' 8 = sg 8) (e9 : sg' 9 = sg 9) (e10 : sg' 10 = sg 10) (e13 : sg' 13 = sg 13) : J2 nf np na sg' := by
  unfold J2
  rw [e1, e3, e7, e8, e9, e10, e13]
  exact h
theorem J2_u3 (h : J2 nf np na sg) {k i j : Nat} {v : Int32} (hk : k = 2 ∨ k = 4 ∨ k = 5 ∨ k = 6) : J2 nf np na (u3 sg k i j v) :=
  J2_cong h (u3_k (by omega)) (u3_k (by omega)) (u3_k (by omega)) (u3_k (by omega)) (u3_k (by omega)) (u3_k (by omega)) (u3_k (by omega))
theorem sml8_of {x : Int32} (h : nI 0 ≤ x ∧ x ≤ nI 255) : sml 8 x := by
  obtain ⟨k, hk, rfl⟩ := rg_of (n := 255) (by decide) h
  exact sml_of (by omega)
theorem J2_file (h : J2 nf np na sg) {x : Int32} (hx : nI 0 ≤ x ∧ x ≤ nI 255) : J2 (nf + 1) np na (u3 sg 1 nf 0 x) := by
  obtain ⟨jA, jN, jB, jC⟩ := h
  have e : ∀ a, a ≠ 1 → u3 sg 1 nf 0 x a = sg a := fun a h => u3_k h
  unfold J2
  rw [e 3 (by decide), e 7 (by decide), e 8 (by decide), e 9 (by decide), e 10 (by decide), e 13 (by decide)]
  refine ⟨jA, fun i hi => ?_, jB, jC⟩
  by_cases q : i = nf
  · subst q; rw [u3_s]; exact sml8_of hx
  · rw [u3_i q]; exact jN i (by omega)
theorem J2_k1 (h : J2 nf np na sg) {f : Nat} {x : Int32} (hx : nI 0 ≤ x ∧ x ≤ nI 255) : J2 nf np na (u3 sg 1 f 0 x) := by
  obtain ⟨jA, jN, jB, jC⟩ := h
  have e : ∀ a, a ≠ 1 → u3 sg 1 f 0 x a = sg a := fun a h => u3_k h
  unfold J2
  rw [e 3 (by decide), e 7 (by decide), e 8 (by decide), e 9 (by decide), e 10 (by decide), e 13 (by decide)]
  refine ⟨jA, fun i hi => ?_, jB, jC⟩
  by_cases q : i = f
  · subst q; rw [u3_s]; exact sml8_of hx
  · rw [u3_i q]; exact jN i hi
theorem nI_T {n : Nat} (h : n < 2 ^ 31) : nI n ≠ -99999999 := fun e => nI_pos h (by rw [e]; decide)
theorem rg_T {x : Int32} {n : Nat} (hn : n < 2 ^ 31) (h : nI 0 ≤ x ∧ x ≤ nI n) : x ≠ -99999999 := by
  obtain ⟨k, hk, rfl⟩ := rg_of hn h
  exact nI_T (by omega)
theorem J2_bu (h : J2 nf np na sg) {p : Nat} {x : Int32} (hx : nI 0 ≤ x ∧ x ≤ nI 128) : J2 nf np na (u3 sg 3 p 0 x) := by
  obtain ⟨jA, jN, jB, jC⟩ := h
  have e : ∀ a, a ≠ 3 → u3 sg 3 p 0 x a = sg a := fun a h => u3_k h
  unfold J2
  rw [e 1 (by decide), e 7 (by decide), e 8 (by decide), e 9 (by decide), e 10 (by decide), e 13 (by decide)]
  refine ⟨jA, jN, fun i hi => ?_, jC⟩
  by_cases q : i = p
  · subst q; rw [u3_s]; exact rg_T (by decide) hx
  · rw [u3_i q]; exact jB i hi
theorem bsum_0 {P : Nat → Bool} : ∀ n, (∀ i, i < n → P i = false) → bsum P n = 0
  | 0, _ => rfl
  | n + 1, h => by
    show bsum P n + (if P n then 1 else 0) = 0
    rw [bsum_0 n (fun i hi => h i (by omega)), h n (Nat.lt_succ_self n)]; rfl
theorem J2_party (h : J2 nf np na sg) (hI : INV nf np na nw sg rc) {x : Int32} (hx : nI 0 ≤ x ∧ x ≤ nI 128) : J2 nf (np + 1) na (u3 sg 3 np 0 x) := by
  obtain ⟨jA, jN, jB, jC⟩ := h
  obtain ⟨v16, v6, v150, vnow, vA, vS, vP, vK, vR⟩ := hI
  have e : ∀ a, a ≠ 3 → u3 sg 3 np 0 x a = sg a := fun a h => u3_k h
  unfold J2
  rw [e 1 (by decide), e 7 (by decide), e 8 (by decide), e 9 (by decide), e 10 (by decide), e 13 (by decide)]
  refine ⟨jA, jN, fun i hi => ?_, fun i hi => ?_⟩
  · by_cases q : i = np
    · subst q; rw [u3_s]; exact rg_T (by decide) hx
    · rw [u3_i q]; exact jB i (by omega)
  · by_cases q : i = np
    · subst q
      rw [(vP i (Nat.le_refl _)).2 0, bsum_0 na (fun a ha => ?_)]
      · rfl
      · obtain ⟨⟨p, hp, e7⟩, -⟩ := vA a ha
        rw [e7]
        exact decide_eq_false (fun q => by have := (nI_eq (by omega) (by omega)).mp q; omega)
    · exact jC i (by omega)
theorem J2_13 (h : J2 nf np na sg) {p k : Nat} {v : Int32} (hk : k ≠ 0) : J2 nf np na (u3 sg 13 p k v) := by
  obtain ⟨jA, jN, jB, jC⟩ := h
  have e : ∀ a, a ≠ 13 → u3 sg 13 p k v a = sg a := fun a h => u3_k h
  unfold J2
  rw [e 1 (by decide), e 3 (by decide), e 7 (by decide), e 8 (by decide), e 9 (by decide), e 10 (by decide)]
  refine ⟨jA, jN, jB, fun i hi => ?_⟩
  by_cases q : i = p
  · subst q; rw [u3_j (Ne.symm hk)]; exact jC i hi
  · rw [u3_i q]; exact jC i hi
theorem bit_of {bit : Int32} (h : (-1) ≤ bit ∧ bit ≤ nI 7) : bit = -1 ∨ ∃ b, b < 8 ∧ bit = nI b := by
  obtain ⟨h1, h2⟩ := h
  by_cases e : bit = -1
  · exact Or.inl e
  · right
    have h0 : ¬ bit < 0 := fun q => e (Int32.toInt_inj.mp (by
      have q1 := Int32.lt_iff_toInt_lt.mp q
      have q2 := Int32.le_iff_toInt_le.mp h1
      have q3 : (-1 : Int32).toInt = -1 := by decide
      have q4 : (0 : Int32).toInt = 0 := by decide
      omega))
    obtain ⟨j, hj, rfl⟩ := nI_of h0
    exact ⟨j, by have := (nI_leI hj (by omega)).mp h2; omega, rfl⟩
theorem xoR_sml {z : Int32} {nu : Nat → Int32} : ∀ n, (∀ i, i < n → sml 8 (nu i)) → sml 8 (xoR z nu n)
  | 0, _ => sml_z 8
  | n + 1, h => by
    show sml 8 (if bt z n then xoR z nu n ^^^ nu n else xoR z nu n)
    have k := xoR_sml (z := z) n (fun i hi => h i (by omega))
    split
    · exact sml_x k (h n (Nat.lt_succ_self n))
    · exact k
theorem tel_of {bit s : Int32} (hb : (-1) ≤ bit ∧ bit ≤ nI 7) (hs : sml 8 s) : ∃ k, tel bit s = nI k ∧ k < 256 ∧ (bit < 0 → k < 256) ∧ (¬ bit < 0 → k < 2) := by
  unfold tel
  rcases bit_of hb with rfl | ⟨b, h8, rfl⟩
  · rw [if_pos rfl]
    obtain ⟨k, hk, rfl⟩ := sml_nI (by decide) hs
    exact ⟨k, rfl, hk, fun _ => hk, fun q => absurd (by decide) q⟩
  · rw [if_neg (fun q => nI_pos (n := b) (by omega) (by rw [q]; decide))]
    have e : (s >>> (nI b &&& 31)) &&& nI 1 = ob (bt s b) := hd_bt s (by omega)
    rw [e]
    have e0 : ∀ q : Bool, ∃ k, ob q = nI k ∧ k < 2 := fun q => by
      cases q
      · exact ⟨0, rfl, by decide⟩
      · exact ⟨1, rfl, by decide⟩
    obtain ⟨k, h1, h2⟩ := e0 (bt s b)
    exact ⟨k, h1, by omega, fun _ => by omega, fun _ => h2⟩
theorem J2_told (h : J2 nf np na sg) (hI : INV nf np na nw sg rc) {p : Nat} {z bit : Int32} (hp : p < np) (hq : Qok nf z bit) : J2 nf np (na + 1) (ansg (u3 sg 13 p 0 (sg 13 p 0 + nI 1)) na p z bit (tel bit (xoR z (fun f => sg 1 f 0) nf)) nw) := by
  obtain ⟨jA, jN, jB, jC⟩ := h
  have v6 : np ≤ 6 := hI.2.1
  obtain ⟨k, ek, k1, k2, k3⟩ := tel_of hq.2 (xoR_sml (z := z) nf jN)
  rw [ek]
  obtain ⟨sg1, hsg1⟩ : ∃ q, q = u3 sg 13 p 0 (sg 13 p 0 + nI 1) := ⟨_, rfl⟩
  rw [← hsg1]
  have e : ∀ a, a ≠ 13 → sg1 a = sg a := fun a h => by rw [hsg1]; exact u3_k h
  have g : ∀ a, (a < 7 ∨ 11 < a) → ansg sg1 na p z bit (nI k) nw a = sg1 a := fun a h => ag_k h
  unfold J2
  rw [g 1 (by omega), g 3 (by omega), g 13 (by omega), e 1 (by decide), e 3 (by decide)]
  have u : ∀ t, 7 ≤ t → t ≤ 11 → ansg sg1 na p z bit (nI k) nw t na 0 = (if t = 7 then nI p else if t = 8 then z else if t = 9 then bit else if t = 10 then nI k else nI nw) := fun t h1 h2 => if_pos ⟨⟨h1, h2⟩, rfl, rfl⟩
  refine ⟨fun a ha => ?_, jN, jB, fun q hq9 => ?_⟩
  · by_cases e9 : a = na
    · subst e9
      rw [u 8 (by decide) (by decide), u 9 (by decide) (by decide), u 10 (by decide) (by decide)]
      show nI 0 < z ∧ (bit < 0 → nI k < nI 256) ∧ (¬ bit < 0 → nI k < nI 2)
      exact ⟨Int32.lt_of_lt_of_le (by decide : nI 0 < nI 1) hq.1.1, fun q => nI_lt (k2 q) (by decide), fun q => nI_lt (k3 q) (by decide)⟩
    · rw [ag_i e9, ag_i e9, ag_i e9, e 8 (by decide), e 9 (by decide), e 10 (by decide)]
      exact jA a (by omega)
  · have hb : bsum (fun a => decide (ansg sg1 na p z bit (nI k) nw 7 a 0 = nI q)) (na + 1) = bsum (fun a => decide (sg 7 a 0 = nI q)) na + (if p = q then 1 else 0) := by
      show bsum _ na + (if decide (ansg sg1 na p z bit (nI k) nw 7 na 0 = nI q) = true then 1 else 0) = _
      rw [u 7 (by decide) (by decide), bsum_cong na (R := fun a => decide (sg 7 a 0 = nI q)) (fun a ha => ?_)]
      · congr 1
        by_cases c : p = q
        · rw [if_pos c, c]; show (if decide (nI q = nI q) = true then 1 else 0) = 1; rw [if_pos (decide_eq_true rfl)]
        · rw [if_neg c]; show (if decide (nI p = nI q) = true then 1 else 0) = 0; rw [if_neg (fun w => c ((nI_eq (by omega) (by omega)).mp (of_decide_eq_true w)))]
      · show decide (ansg sg1 na p z bit (nI k) nw 7 a 0 = nI q) = _
        rw [ag_i (Nat.ne_of_lt ha), e 7 (by decide)]
    rw [hb, hsg1]
    by_cases c : q = p
    · subst c
      rw [u3_s, if_pos rfl, jC q hq9, nI_add]
    · rw [u3_i c, if_neg (fun w => c w.symm)]
      exact jC q hq9
theorem fate_le {p : Nat} {x bit : Int32} : fate nf na nw sg rc p x bit ≤ 4 := by
  unfold fate
  split
  · omega
  · split
    · omega
    · split
      · omega
      · split <;> omega
end J2S
def JV (S : AS) : Prop := IV S ∧ J2 S.1 S.2.1 S.2.2.1 S.2.2.2.2.1
def GD (S : AS) (R : Int32 × AS) : Prop := JV R.2 ∧ (R.1 = -99999999 → R.2 = S)
theorem gd_cif {S : AS} {P : Prop} {g : Int32 × AS} (h : JV S) (k : P → GD S g) : GD S (cif P g (bad S)) := by
  by_cases c : P
  · rw [cif_t c]; exact k c
  · rw [cif_f c]; exact ⟨h, fun _ => rfl⟩
theorem gd_q {S : AS} {v : Int32} (h : JV S) : GD S (v, S) := ⟨h, fun _ => rfl⟩
theorem gd_s {S S' : AS} {v : Int32} (h : JV S') (k : v ≠ -99999999) : GD S (v, S') := ⟨h, fun q => absurd q k⟩
section GDS
variable {S : AS} {x y z k a b bit xs : Int32}
theorem gd_seal (h : JV S) : GD S (f_seal S x y) := gd_cif h (fun c => by
  obtain ⟨nf, np, na, nw, sg, rc⟩ := S
  obtain ⟨hI, hJ⟩ := h
  obtain ⟨⟨f, hf, rfl⟩, -⟩ := c
  have b1 : nf ≤ 16 := hI.1
  have hf : f < nf := hf
  unfold g_seal
  rw [cl_nI (by omega)]
  exact gd_s ⟨INV_seal hI hf, J2_u3 hJ (Or.inl rfl)⟩ (by decide))
theorem gd_right (h : JV S) : GD S (f_right S x y k a b) := gd_cif h (fun c => by
  obtain ⟨nf, np, na, nw, sg, rc⟩ := S
  obtain ⟨hI, hJ⟩ := h
  obtain ⟨⟨⟨p, hp, rfl⟩, f, hf, rfl⟩, c2⟩ := c
  have b1 : nf ≤ 16 := hI.1
  have b2 : np ≤ 6 := hI.2.1
  have hf : f < nf := hf
  have hp : p < np := hp
  unfold g_right
  rw [cl_nI (by omega), cl_nI (by omega)]
  exact gd_s ⟨INV_right hI hp c2.1, J2_u3 (J2_u3 (J2_u3 hJ (by omega)) (by omega)) (by omega)⟩ (by decide))
theorem gd_budget (h : JV S) : GD S (f_budget S x y) := gd_cif h (fun c => by
  obtain ⟨nf, np, na, nw, sg, rc⟩ := S
  obtain ⟨hI, hJ⟩ := h
  obtain ⟨⟨p, hp, rfl⟩, c2⟩ := c
  have b2 : np ≤ 6 := hI.2.1
  have hp : p < np := hp
  unfold g_budget
  rw [cl_nI (by omega)]
  exact gd_s ⟨INV_bu hI, J2_bu hJ c2⟩ (hJ.2.2.1 p hp))
theorem gd_file (h : JV S) : GD S (f_file S x) := gd_cif h (fun c => by
  obtain ⟨nf, np, na, nw, sg, rc⟩ := S
  obtain ⟨hI, hJ⟩ := h
  have b1 : nf ≤ 16 := hI.1
  exact gd_s ⟨INV_file hI c.2, J2_file hJ c.1⟩ (nI_T (by show nf < _; omega)))
theorem gd_party (h : JV S) : GD S (f_party S x) := gd_cif h (fun c => by
  obtain ⟨nf, np, na, nw, sg, rc⟩ := S
  obtain ⟨hI, hJ⟩ := h
  have b2 : np ≤ 6 := hI.2.1
  exact gd_s ⟨INV_party hI c.2, J2_party hJ hI c.1⟩ (nI_T (by show np < _; omega)))
theorem gd_pass (h : JV S) : GD S (f_pass S x) := gd_cif h (fun c => by
  obtain ⟨nf, np, na, nw, sg, rc⟩ := S
  obtain ⟨hI, hJ⟩ := h
  obtain ⟨c1, c2⟩ := c
  have b4 : nw ≤ 5000 := hI.2.2.2.1
  obtain ⟨k, hk, rfl⟩ := rg_of (n := 500) (by decide) ⟨Int32.le_trans (by decide : nI 0 ≤ nI 1) c1.1, c1.2⟩
  have c3 : nw + k ≤ 5000 := by
    have c2 : nI nw + nI k ≤ nI 5000 := c2
    rw [nI_add] at c2
    exact (nI_leI (by omega) (by omega)).mp c2
  unfold g_pass
  rw [cl_nI (by omega)]
  exact gd_s ⟨INV_now hI c3, hJ⟩ (nI_T (by show nw + k < _; omega)))
theorem gd_change (h : JV S) : GD S (f_change S x y) := gd_cif h (fun c => by
  obtain ⟨nf, np, na, nw, sg, rc⟩ := S
  obtain ⟨hI, hJ⟩ := h
  obtain ⟨⟨f, hf, rfl⟩, c2⟩ := c
  have b1 : nf ≤ 16 := hI.1
  have b3 : na ≤ 150 := hI.2.2.1
  have hf : f < nf := hf
  unfold g_change
  rw [cl_nI (by omega)]
  exact gd_s ⟨INV_k1 (INV_rc hI (rcA_out hI)), J2_k1 hJ c2⟩ (nI_T (Nat.lt_of_le_of_lt (bsum_le _ _) (by show na < _; omega))))
theorem gd_takeBack (h : JV S) : GD S (f_takeBack S x z) := gd_cif h (fun c => by
  obtain ⟨nf, np, na, nw, sg, rc⟩ := S
  obtain ⟨hI, hJ⟩ := h
  obtain ⟨⟨p, hp, rfl⟩, f, hf, rfl⟩ := c
  have b1 : nf ≤ 16 := hI.1
  have b2 : np ≤ 6 := hI.2.1
  have b3 : na ≤ 150 := hI.2.2.1
  have hf : f < nf := hf
  have hp : p < np := hp
  unfold g_takeBack
  rw [cl_nI (by omega), cl_nI (by omega)]
  refine gd_s ⟨INV_rc (INV_k4 hI hp ⟨0, by omega, rfl⟩) (rcI_out' hI), J2_u3 hJ (by omega)⟩ ?_
  show (if sg 4 p f = 0 then nI 0 else nI (bsum (prc sg rc p f) na)) ≠ _
  split
  · decide
  · exact nI_T (by have := bsum_le (prc sg rc p f) na; omega))
theorem gd_rightTo (h : JV S) : GD S (f_rightTo S x z) := gd_cif h (fun _ => gd_q h)
theorem gd_finds (h : JV S) : GD S (f_finds S x z) := gd_cif h (fun _ => gd_q h)
theorem gd_spent (h : JV S) : GD S (f_spent S x) := gd_cif h (fun _ => gd_q h)
theorem gd_cost (h : JV S) : GD S (f_cost S x z bit) := gd_cif h (fun _ => gd_q h)
theorem gd_answer (h : JV S) : GD S (f_answer S x z) := gd_cif h (fun _ => gd_q h)
theorem gd_count (h : JV S) : GD S (f_count S x z) := gd_cif h (fun _ => gd_q h)
theorem gd_together (h : JV S) : GD S (f_together S xs z) := gd_cif h (fun _ => gd_q h)
theorem gd_isSealed (h : JV S) : GD S (f_isSealed S x) := gd_cif h (fun _ => gd_q h)
theorem gd_ask (h : JV S) : GD S (f_ask S x z bit) := gd_cif h (fun c => by
  obtain ⟨nf, np, na, nw, sg, rc⟩ := S
  obtain ⟨hI, hJ⟩ := h
  obtain ⟨⟨p, hp, rfl⟩, hq, h150⟩ := c
  have b1 : nf ≤ 16 := hI.1
  have b2 : np ≤ 6 := hI.2.1
  have hp : p < np := hp
  unfold g_ask
  rw [cl_nI (by omega)]
  by_cases e : fate nf na nw sg rc p z bit ≠ 0
  · rw [cif_t e]
    have k4 : fate nf na nw sg rc p z bit ≤ 4 := fate_le
    refine gd_s ⟨INV_k13 hI hp, J2_13 hJ e⟩ ?_
    show -nI (fate nf na nw sg rc p z bit) ≠ _
    generalize fate nf na nw sg rc p z bit = q at k4 e
    rcases (show q = 1 ∨ q = 2 ∨ q = 3 ∨ q = 4 by omega) with rfl | rfl | rfl | rfl <;> decide
  · rw [cif_f e]
    refine gd_s ⟨INV_told (INV_k13 hI hp) hp hq h150, J2_told hJ hI hp hq⟩ ?_
    obtain ⟨k, ek, k1, -⟩ := tel_of hq.2 (xoR_sml (z := z) nf hJ.2.1)
    show tel bit (xoR z (fun f => sg 1 f 0) nf) ≠ _
    rw [ek]
    exact nI_T (by omega))
theorem gd_act1 {v : Int32} (h : JV S) : ∀ n, GD S (act1 S v n)
  | 0 => gd_file h
  | 1 => gd_file h
  | 2 => gd_file h
  | 3 => gd_change h
  | 4 => gd_party h
  | 5 => gd_party h
  | 6 => gd_budget h
  | 7 => gd_right h
  | 8 => gd_right h
  | 9 => gd_right h
  | 10 => gd_right h
  | 11 => gd_right h
  | 12 => gd_takeBack h
  | 13 => gd_seal h
  | 14 => gd_pass h
  | 15 => gd_ask h
  | 16 => gd_ask h
  | 17 => gd_ask h
  | 18 => gd_ask h
  | 19 => gd_ask h
  | 20 => gd_ask h
  | 21 => gd_ask h
  | 22 => gd_ask h
  | 23 => gd_cost h
  | 24 => gd_answer h
  | 25 => gd_spent h
  | 26 => gd_finds h
  | 27 => gd_together h
  | 28 => gd_rightTo h
  | 29 => gd_isSealed h
  | n + 30 => gd_count h
theorem gd_act0 {v : Int32} (h : JV S) : ∀ n, GD S (act0 S v n)
  | 0 => gd_file h
  | 1 => gd_file h
  | 2 => gd_file h
  | 3 => gd_change h
  | 4 => gd_party h
  | 5 => gd_party h
  | 6 => gd_budget h
  | 7 => gd_right h
  | 8 => gd_right h
  | 9 => gd_right h
  | 10 => gd_right h
  | 11 => gd_right h
  | 12 => gd_takeBack h
  | 13 => gd_seal h
  | 14 => gd_pass h
  | 15 => gd_ask h
  | 16 => gd_ask h
  | 17 => gd_ask h
  | 18 => gd_ask h
  | 19 => gd_ask h
  | 20 => gd_ask h
  | 21 => gd_ask h
  | 22 => gd_ask h
  | 23 => gd_cost h
  | 24 => gd_answer h
  | 25 => gd_spent h
  | 26 => gd_finds h
  | 27 => gd_together h
  | 28 => gd_rightTo h
  | 29 => gd_isSealed h
  | n + 30 => gd_count h
theorem gd_act {v : Int32} (h : JV S) : GD S (f_act S v) := by
  by_cases c : (lowf (v >>> (nI 26 &&& 31)) (nI 14)) = 0
  · unfold f_act; rw [cif_t c]; exact gd_act1 h _
  · unfold f_act; rw [cif_f c]; exact gd_act0 h _
end GDS
