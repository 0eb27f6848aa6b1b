/-! one step of the law on a room -/
def swk (x : Int32) : Nat := if x.toInt < 0 ∨ 29 < x.toInt then 30 else x.toInt.toNat
theorem swk_o {x : Int32} (h : x.toInt < 0 ∨ 29 < x.toInt) : swk x = 30 := if_pos h
theorem sw30 (x : Int32) : (x.toInt < 0 ∨ 29 < x.toInt) ∨ ∃ j, j < 30 ∧ x = nI j := by
  by_cases h : x.toInt < 0 ∨ 29 < x.toInt
  · exact Or.inl h
  · have h0 : ¬ x < 0 := fun q => h (Or.inl (by have := Int32.lt_iff_toInt_lt.mp q; rw [show (0 : Int32).toInt = 0 by decide] at this; exact this))
    obtain ⟨j, hj, rfl⟩ := nI_of h0
    rw [nI_toInt hj] at h
    exact Or.inr ⟨j, by omega, rfl⟩
noncomputable def act1 (S : AS) (v : Int32) : Nat → Int32 × AS
  | 0 => f_file S (v >>> (nI 9 &&& 31))
  | 1 => f_file S (v >>> (nI 9 &&& 31))
  | 2 => f_file S (v >>> (nI 9 &&& 31))
  | 3 => f_change S ((lowf (v >>> (nI 5 &&& 31)) (nI 20)) - nI 2) (v >>> (nI 9 &&& 31))
  | 4 => f_party S (v >>> (nI 9 &&& 31))
  | 5 => f_party S (v >>> (nI 9 &&& 31))
  | 6 => f_budget S ((lowf (v >>> (nI 8 &&& 31)) (nI 9)) - nI 1) (v >>> (nI 9 &&& 31))
  | 7 => f_right S ((lowf (v >>> (nI 8 &&& 31)) (nI 9)) - nI 1) ((lowf (v >>> (nI 5 &&& 31)) (nI 20)) - nI 2) ((lowf (v >>> (nI 11 &&& 31)) (nI 12)) - nI 2) ((v >>> (nI 4 &&& 31)) / nI 4) (v >>> (nI 4 &&& 31))
  | 8 => f_right S ((lowf (v >>> (nI 8 &&& 31)) (nI 9)) - nI 1) ((lowf (v >>> (nI 5 &&& 31)) (nI 20)) - nI 2) ((lowf (v >>> (nI 11 &&& 31)) (nI 12)) - nI 2) ((v >>> (nI 4 &&& 31)) / nI 4) (v >>> (nI 4 &&& 31))
  | 9 => f_right S ((lowf (v >>> (nI 8 &&& 31)) (nI 9)) - nI 1) ((lowf (v >>> (nI 5 &&& 31)) (nI 20)) - nI 2) ((lowf (v >>> (nI 11 &&& 31)) (nI 12)) - nI 2) ((v >>> (nI 4 &&& 31)) / nI 4) (v >>> (nI 4 &&& 31))
  | 10 => f_right S ((lowf (v >>> (nI 8 &&& 31)) (nI 9)) - nI 1) ((lowf (v >>> (nI 5 &&& 31)) (nI 20)) - nI 2) ((lowf (v >>> (nI 11 &&& 31)) (nI 12)) - nI 2) ((v >>> (nI 4 &&& 31)) / nI 4) (v >>> (nI 4 &&& 31))
  | 11 => f_right S ((lowf (v >>> (nI 8 &&& 31)) (nI 9)) - nI 1) ((lowf (v >>> (nI 5 &&& 31)) (nI 20)) - nI 2) ((lowf (v >>> (nI 11 &&& 31)) (nI 12)) - nI 2) ((v >>> (nI 4 &&& 31)) / nI 4) (v >>> (nI 4 &&& 31))
  | 12 => f_takeBack S ((lowf (v >>> (nI 8 &&& 31)) (nI 9)) - nI 1) ((lowf (v >>> (nI 5 &&& 31)) (nI 20)) - nI 2)
  | 13 => f_seal S ((lowf (v >>> (nI 5 &&& 31)) (nI 20)) - nI 2) (v >>> (nI 4 &&& 31))
  | 14 => f_pass S (v >>> (nI 4 &&& 31))
  | 15 => f_ask S ((lowf (v >>> (nI 8 &&& 31)) (nI 9)) - nI 1) (v >>> (nI 9 &&& 31)) ((lowf (v >>> (nI 11 &&& 31)) (nI 12)) - nI 2)
  | 16 => f_ask S ((lowf (v >>> (nI 8 &&& 31)) (nI 9)) - nI 1) (v >>> (nI 9 &&& 31)) ((lowf (v >>> (nI 11 &&& 31)) (nI 12)) - nI 2)
  | 17 => f_ask S ((lowf (v >>> (nI 8 &&& 31)) (nI 9)) - nI 1) (v >>> (nI 9 &&& 31)) ((lowf (v >>> (nI 11 &&& 31)) (nI 12)) - nI 2)
  | 18 => f_ask S ((lowf (v >>> (nI 8 &&& 31)) (nI 9)) - nI 1) (v >>> (nI 9 &&& 31)) ((lowf (v >>> (nI 11 &&& 31)) (nI 12)) - nI 2)
  | 19 => f_ask S ((lowf (v >>> (nI 8 &&& 31)) (nI 9)) - nI 1) (v >>> (nI 9 &&& 31)) ((lowf (v >>> (nI 11 &&& 31)) (nI 12)) - nI 2)
  | 20 => f_ask S ((lowf (v >>> (nI 8 &&& 31)) (nI 9)) - nI 1) (v >>> (nI 9 &&& 31)) ((lowf (v >>> (nI 11 &&& 31)) (nI 12)) - nI 2)
  | 21 => f_ask S ((lowf (v >>> (nI 8 &&& 31)) (nI 9)) - nI 1) (v >>> (nI 9 &&& 31)) ((lowf (v >>> (nI 11 &&& 31)) (nI 12)) - nI 2)
  | 22 => f_ask S ((lowf (v >>> (nI 8 &&& 31)) (nI 9)) - nI 1) (v >>> (nI 9 &&& 31)) ((lowf (v >>> (nI 11 &&& 31)) (nI 12)) - nI 2)
  | 23 => f_cost S ((lowf (v >>> (nI 8 &&& 31)) (nI 9)) - nI 1) (v >>> (nI 9 &&& 31)) ((lowf (v >>> (nI 11 &&& 31)) (nI 12)) - nI 2)
  | 24 => f_answer S (v >>> (nI 4 &&& 31)) ((lowf (v >>> (nI 11 &&& 31)) (nI 12)) - nI 2)
  | 25 => f_spent S ((lowf (v >>> (nI 8 &&& 31)) (nI 9)) - nI 1)
  | 26 => f_finds S ((lowf (v >>> (nI 8 &&& 31)) (nI 9)) - nI 1) ((lowf (v >>> (nI 5 &&& 31)) (nI 20)) - nI 2)
  | 27 => f_together S (v >>> (nI 9 &&& 31)) ((lowf (v >>> (nI 5 &&& 31)) (nI 20)) - nI 2)
  | 28 => f_rightTo S ((lowf (v >>> (nI 8 &&& 31)) (nI 9)) - nI 1) ((lowf (v >>> (nI 5 &&& 31)) (nI 20)) - nI 2)
  | 29 => f_isSealed S ((lowf (v >>> (nI 5 &&& 31)) (nI 20)) - nI 2)
  | _ => f_count S ((lowf (v >>> (nI 8 &&& 31)) (nI 9)) - nI 1) (v >>> (nI 4 &&& 31))
noncomputable def act0 (S : AS) (v : Int32) : Nat → Int32 × AS
  | 0 => f_file S (lowf (v >>> (nI 9 &&& 31)) (nI 256))
  | 1 => f_file S (lowf (v >>> (nI 9 &&& 31)) (nI 256))
  | 2 => f_file S (lowf (v >>> (nI 9 &&& 31)) (nI 256))
  | 3 => f_change S (lowf (v >>> (nI 5 &&& 31)) (nI 5)) (lowf (v >>> (nI 9 &&& 31)) (nI 256))
  | 4 => f_party S (lowf (v >>> (nI 9 &&& 31)) (nI 60))
  | 5 => f_party S (lowf (v >>> (nI 9 &&& 31)) (nI 60))
  | 6 => f_budget S (lowf (v >>> (nI 8 &&& 31)) (nI 3)) (lowf (v >>> (nI 9 &&& 31)) (nI 100))
  | 7 => f_right S (lowf (v >>> (nI 8 &&& 31)) (nI 3)) (lowf (v >>> (nI 5 &&& 31)) (nI 5)) (nI 1 + (lowf (v >>> (nI 11 &&& 31)) (nI 2))) ((lowf (v >>> (nI 4 &&& 31)) (nI 40)) / nI 4) (((lowf (v >>> (nI 4 &&& 31)) (nI 40)) / nI 4) + (lowf (v >>> (nI 9 &&& 31)) (nI 200)))
  | 8 => f_right S (lowf (v >>> (nI 8 &&& 31)) (nI 3)) (lowf (v >>> (nI 5 &&& 31)) (nI 5)) (nI 1 + (lowf (v >>> (nI 11 &&& 31)) (nI 2))) ((lowf (v >>> (nI 4 &&& 31)) (nI 40)) / nI 4) (((lowf (v >>> (nI 4 &&& 31)) (nI 40)) / nI 4) + (lowf (v >>> (nI 9 &&& 31)) (nI 200)))
  | 9 => f_right S (lowf (v >>> (nI 8 &&& 31)) (nI 3)) (lowf (v >>> (nI 5 &&& 31)) (nI 5)) (nI 1 + (lowf (v >>> (nI 11 &&& 31)) (nI 2))) ((lowf (v >>> (nI 4 &&& 31)) (nI 40)) / nI 4) (((lowf (v >>> (nI 4 &&& 31)) (nI 40)) / nI 4) + (lowf (v >>> (nI 9 &&& 31)) (nI 200)))
  | 10 => f_right S (lowf (v >>> (nI 8 &&& 31)) (nI 3)) (lowf (v >>> (nI 5 &&& 31)) (nI 5)) (nI 1 + (lowf (v >>> (nI 11 &&& 31)) (nI 2))) ((lowf (v >>> (nI 4 &&& 31)) (nI 40)) / nI 4) (((lowf (v >>> (nI 4 &&& 31)) (nI 40)) / nI 4) + (lowf (v >>> (nI 9 &&& 31)) (nI 200)))
  | 11 => f_right S (lowf (v >>> (nI 8 &&& 31)) (nI 3)) (lowf (v >>> (nI 5 &&& 31)) (nI 5)) (nI 1 + (lowf (v >>> (nI 11 &&& 31)) (nI 2))) ((lowf (v >>> (nI 4 &&& 31)) (nI 40)) / nI 4) (((lowf (v >>> (nI 4 &&& 31)) (nI 40)) / nI 4) + (lowf (v >>> (nI 9 &&& 31)) (nI 200)))
  | 12 => f_takeBack S (lowf (v >>> (nI 8 &&& 31)) (nI 3)) (lowf (v >>> (nI 5 &&& 31)) (nI 5))
  | 13 => f_seal S (lowf (v >>> (nI 5 &&& 31)) (nI 5)) (lowf (v >>> (nI 4 &&& 31)) (nI 40))
  | 14 => f_pass S (nI 1 + (lowf (v >>> (nI 9 &&& 31)) (nI 5)))
  | 15 => f_ask S (lowf (v >>> (nI 8 &&& 31)) (nI 3)) (nI 1 + (lowf (v >>> (nI 9 &&& 31)) (nI 31))) ((lowf (v >>> (nI 11 &&& 31)) (nI 4)) - nI 1)
  | 16 => f_ask S (lowf (v >>> (nI 8 &&& 31)) (nI 3)) (nI 1 + (lowf (v >>> (nI 9 &&& 31)) (nI 31))) ((lowf (v >>> (nI 11 &&& 31)) (nI 4)) - nI 1)
  | 17 => f_ask S (lowf (v >>> (nI 8 &&& 31)) (nI 3)) (nI 1 + (lowf (v >>> (nI 9 &&& 31)) (nI 31))) ((lowf (v >>> (nI 11 &&& 31)) (nI 4)) - nI 1)
  | 18 => f_ask S (lowf (v >>> (nI 8 &&& 31)) (nI 3)) (nI 1 + (lowf (v >>> (nI 9 &&& 31)) (nI 31))) ((lowf (v >>> (nI 11 &&& 31)) (nI 4)) - nI 1)
  | 19 => f_ask S (lowf (v >>> (nI 8 &&& 31)) (nI 3)) (nI 1 + (lowf (v >>> (nI 9 &&& 31)) (nI 31))) ((lowf (v >>> (nI 11 &&& 31)) (nI 4)) - nI 1)
  | 20 => f_ask S (lowf (v >>> (nI 8 &&& 31)) (nI 3)) (nI 1 + (lowf (v >>> (nI 9 &&& 31)) (nI 31))) ((lowf (v >>> (nI 11 &&& 31)) (nI 4)) - nI 1)
  | 21 => f_ask S (lowf (v >>> (nI 8 &&& 31)) (nI 3)) (nI 1 + (lowf (v >>> (nI 9 &&& 31)) (nI 31))) ((lowf (v >>> (nI 11 &&& 31)) (nI 4)) - nI 1)
  | 22 => f_ask S (lowf (v >>> (nI 8 &&& 31)) (nI 3)) (nI 1 + (lowf (v >>> (nI 9 &&& 31)) (nI 31))) ((lowf (v >>> (nI 11 &&& 31)) (nI 4)) - nI 1)
  | 23 => f_cost S (lowf (v >>> (nI 8 &&& 31)) (nI 3)) (nI 1 + (lowf (v >>> (nI 9 &&& 31)) (nI 31))) ((lowf (v >>> (nI 11 &&& 31)) (nI 4)) - nI 1)
  | 24 => f_answer S (lowf (v >>> (nI 4 &&& 31)) (nI 12)) (lowf (v >>> (nI 11 &&& 31)) (nI 6))
  | 25 => f_spent S (lowf (v >>> (nI 8 &&& 31)) (nI 3))
  | 26 => f_finds S (lowf (v >>> (nI 8 &&& 31)) (nI 3)) (lowf (v >>> (nI 5 &&& 31)) (nI 5))
  | 27 => f_together S (lowf (v >>> (nI 9 &&& 31)) (nI 8)) (lowf (v >>> (nI 5 &&& 31)) (nI 5))
  | 28 => f_rightTo S (lowf (v >>> (nI 8 &&& 31)) (nI 3)) (lowf (v >>> (nI 5 &&& 31)) (nI 5))
  | 29 => f_isSealed S (lowf (v >>> (nI 5 &&& 31)) (nI 5))
  | _ => f_count S (lowf (v >>> (nI 8 &&& 31)) (nI 3)) (lowf (v >>> (nI 4 &&& 31)) (nI 6))
noncomputable def f_act (S : AS) (v : Int32) : Int32 × AS := cif ((lowf (v >>> (nI 26 &&& 31)) (nI 14)) = 0) (act1 S v (swk ((lowf v (nI 32))))) (act0 S v (swk ((lowf v (nI 32)))))
set_option maxHeartbeats 8000000 in
set_option maxRecDepth 100000 in
theorem l_act (l : Launch) (hfl : l.stackTraces = false) {E : xE} {base : Nat} {S : AS} (hI : IV S) {v : Int32} : HM l yL_act cL_act 8 (some (.int)) ({ frames := 10, cells := 22, slots := 544, locals := 241 } : Room) E base [.int v] S (f_act S v).1 (f_act S v).2 := by
  intro al w hR
  refine xMet.of (by decide +kernel) "DataroomLaw" rfl (Nat.le_of_ble_eq_true rfl) ?_
  intro p9 e9 s m9 below meth c9 ls C hin hP hS hl
  have hx := C.hx
  have hb := C.hb
  have hH := hP
  have hl : lv_has ls 8 [(0, .ref (al (0, 0, 0))), (1, .int v)] := hl
  obtain ⟨post, hpost⟩ : ∃ zz9 : Option Value → Heap → Prop, zz9 = (fun r H => r = some (.int (f_act S v).1) ∧ PS E base al w (f_act S v).2 H) := ⟨_, rfl⟩
  rw [← hpost]
  generalize hQ : (MQ below (xQ base post) ([.ref (al (0, 0, 0)), .int v] : List Value).toArray s 22 544 (xA base)) = Q
  refine lv_iload_n hx hb dL_act_0 rfl (lv_at hl 1 rfl) ?_
  refine lv_bipush (v := nI 26) hx hb dL_act_1 (by decide +kernel) ?_
  refine lv_ishr hx hb dL_act_3 ?_
  refine lv_bipush (v := nI 14) hx hb dL_act_4 (by decide +kernel) ?_
  refine x_callS C hS (c_low l (E := E) (base := base) (v := (v >>> (nI 26 &&& 31))) (n := nI 14) (by decide +kernel)) hH kL_low qw_113 qw_112 rfl [] rfl hl.1 (Nat.le_of_ble_eq_true rfl) ⟨(Nat.le_of_ble_eq_true rfl), (Nat.le_of_ble_eq_true rfl)⟩ dL_act_6 ⟨(Nat.le_of_ble_eq_true rfl), (Nat.le_of_ble_eq_true rfl)⟩ (fun r H locs hp hS => ?_)
  obtain ⟨rfl, hH⟩ := hp
  refine lv_if_ne (tgt := 16) hx hb dL_act_9 (by decide) (fun hodd => ?_) (fun hodd => ?_)
  · skip
    refine lv_iconst (v := nI 0) hx hb dL_act_16 (by decide +kernel) ?_
    refine lv_istore_n (lv' := [(2, .int (nI 0)), (0, .ref (al (0, 0, 0))), (1, .int v)]) hx hb dL_act_17 rfl hl (by decide) rfl (fun ls hl => ?_)
    refine lv_iload_n hx hb dL_act_18 rfl (lv_at hl 0 rfl) ?_
    refine lv_if_eq (tgt := 35) hx hb dL_act_19 (by decide) (fun c_1 => ?_) (fun c_1 => absurd (by decide +kernel) c_1)
    clear c_1
    refine lv_iload_n hx hb dL_act_35 rfl (lv_at hl 2 rfl) ?_
    refine lv_iconst (v := nI 5) hx hb dL_act_36 (by decide +kernel) ?_
    refine lv_ishr hx hb dL_act_37 ?_
    refine lv_iconst (v := nI 5) hx hb dL_act_38 (by decide +kernel) ?_
    refine x_callS C hS (c_low l (E := E) (base := base) (v := (v >>> (nI 5 &&& 31))) (n := nI 5) (by decide +kernel)) hH kL_low qw_113 qw_112 rfl [] rfl hl.1 (Nat.le_of_ble_eq_true rfl) ⟨(Nat.le_of_ble_eq_true rfl), (Nat.le_of_ble_eq_true rfl)⟩ dL_act_39 ⟨(Nat.le_of_ble_eq_true rfl), (Nat.le_of_ble_eq_true rfl)⟩ (fun r H locs hp hS => ?_)
    obtain ⟨rfl, hH⟩ := hp
    refine lv_istore_n (lv' := [(3, .int (lowf (v >>> (nI 5 &&& 31)) (nI 5))), (2, .int (nI 0)), (0, .ref (al (0, 0, 0))), (1, .int v)]) hx hb dL_act_42 rfl hl (by decide) rfl (fun ls hl => ?_)
    refine lv_iload_n hx hb dL_act_43 rfl (lv_at hl 1 rfl) ?_
    refine lv_if_eq (tgt := 61) hx hb dL_act_44 (by decide) (fun c_2 => ?_) (fun c_2 => absurd (by decide +kernel) c_2)
    clear c_2
    refine lv_iload_n hx hb dL_act_61 rfl (lv_at hl 3 rfl) ?_
    refine lv_bipush (v := nI 8) hx hb dL_act_62 (by decide +kernel) ?_
    refine lv_ishr hx hb dL_act_64 ?_
    refine lv_iconst (v := nI 3) hx hb dL_act_65 (by decide +kernel) ?_
    refine x_callS C hS (c_low l (E := E) (base := base) (v := (v >>> (nI 8 &&& 31))) (n := nI 3) (by decide +kernel)) hH kL_low qw_113 qw_112 rfl [] rfl hl.1 (Nat.le_of_ble_eq_true rfl) ⟨(Nat.le_of_ble_eq_true rfl), (Nat.le_of_ble_eq_true rfl)⟩ dL_act_66 ⟨(Nat.le_of_ble_eq_true rfl), (Nat.le_of_ble_eq_true rfl)⟩ (fun r H locs hp hS => ?_)
    obtain ⟨rfl, hH⟩ := hp
    refine lv_istore (lv' := [(4, .int (lowf (v >>> (nI 8 &&& 31)) (nI 3))), (3, .int (lowf (v >>> (nI 5 &&& 31)) (nI 5))), (2, .int (nI 0)), (0, .ref (al (0, 0, 0))), (1, .int v)]) hx hb dL_act_69 hl (by decide) rfl (fun ls hl => ?_)
    refine lv_iload_n hx hb dL_act_71 rfl (lv_at hl 2 rfl) ?_
    refine lv_if_eq (tgt := 89) hx hb dL_act_72 (by decide) (fun c_3 => ?_) (fun c_3 => absurd (by decide +kernel) c_3)
    clear c_3
    refine lv_iload_n hx hb dL_act_89 rfl (lv_at hl 4 rfl) ?_
    refine lv_bipush (v := nI 11) hx hb dL_act_90 (by decide +kernel) ?_
    refine lv_ishr hx hb dL_act_92 ?_
    refine lv_iconst (v := nI 4) hx hb dL_act_93 (by decide +kernel) ?_
    refine x_callS C hS (c_low l (E := E) (base := base) (v := (v >>> (nI 11 &&& 31))) (n := nI 4) (by decide +kernel)) hH kL_low qw_113 qw_112 rfl [] rfl hl.1 (Nat.le_of_ble_eq_true rfl) ⟨(Nat.le_of_ble_eq_true rfl), (Nat.le_of_ble_eq_true rfl)⟩ dL_act_94 ⟨(Nat.le_of_ble_eq_true rfl), (Nat.le_of_ble_eq_true rfl)⟩ (fun r H locs hp hS => ?_)
    obtain ⟨rfl, hH⟩ := hp
    refine lv_iconst (v := nI 1) hx hb dL_act_97 (by decide +kernel) ?_
    refine lv_isub hx hb dL_act_98 ?_
    refine lv_istore (lv' := [(5, .int ((lowf (v >>> (nI 11 &&& 31)) (nI 4)) - nI 1)), (4, .int (lowf (v >>> (nI 8 &&& 31)) (nI 3))), (3, .int (lowf (v >>> (nI 5 &&& 31)) (nI 5))), (2, .int (nI 0)), (0, .ref (al (0, 0, 0))), (1, .int v)]) hx hb dL_act_99 hl (by decide) rfl (fun ls hl => ?_)
    refine lv_iload_n hx hb dL_act_101 rfl (lv_at hl 3 rfl) ?_
    refine lv_if_eq (tgt := 112) hx hb dL_act_102 (by decide) (fun c_4 => ?_) (fun c_4 => absurd (by decide +kernel) c_4)
    clear c_4
    refine lv_iconst (v := nI 1) hx hb dL_act_112 (by decide +kernel) ?_
    refine lv_iload_n hx hb dL_act_113 rfl (lv_at hl 5 rfl) ?_
    refine lv_bipush (v := nI 9) hx hb dL_act_114 (by decide +kernel) ?_
    refine lv_ishr hx hb dL_act_116 ?_
    refine lv_bipush (v := nI 31) hx hb dL_act_117 (by decide +kernel) ?_
    refine x_callS C hS (c_low l (E := E) (base := base) (v := (v >>> (nI 9 &&& 31))) (n := nI 31) (by decide +kernel)) hH kL_low qw_113 qw_112 rfl [.int (nI 1)] rfl hl.1 (Nat.le_of_ble_eq_true rfl) ⟨(Nat.le_of_ble_eq_true rfl), (Nat.le_of_ble_eq_true rfl)⟩ dL_act_119 ⟨(Nat.le_of_ble_eq_true rfl), (Nat.le_of_ble_eq_true rfl)⟩ (fun r H locs hp hS => ?_)
    obtain ⟨rfl, hH⟩ := hp
    refine lv_iadd hx hb dL_act_122 ?_
    refine lv_istore (lv' := [(6, .int (nI 1 + (lowf (v >>> (nI 9 &&& 31)) (nI 31)))), (5, .int ((lowf (v >>> (nI 11 &&& 31)) (nI 4)) - nI 1)), (4, .int (lowf (v >>> (nI 8 &&& 31)) (nI 3))), (3, .int (lowf (v >>> (nI 5 &&& 31)) (nI 5))), (2, .int (nI 0)), (0, .ref (al (0, 0, 0))), (1, .int v)]) hx hb dL_act_123 hl (by decide) rfl (fun ls hl => ?_)
    refine lv_iload_n hx hb dL_act_125 rfl (lv_at hl 4 rfl) ?_
    refine lv_if_eq (tgt := 135) hx hb dL_act_126 (by decide) (fun c_5 => ?_) (fun c_5 => absurd (by decide +kernel) c_5)
    clear c_5
    refine lv_iload_n hx hb dL_act_135 rfl (lv_at hl 6 rfl) ?_
    refine lv_iconst (v := nI 4) hx hb dL_act_136 (by decide +kernel) ?_
    refine lv_ishr hx hb dL_act_137 ?_
    refine lv_bipush (v := nI 40) hx hb dL_act_138 (by decide +kernel) ?_
    refine x_callS C hS (c_low l (E := E) (base := base) (v := (v >>> (nI 4 &&& 31))) (n := nI 40) (by decide +kernel)) hH kL_low qw_113 qw_112 rfl [] rfl hl.1 (Nat.le_of_ble_eq_true rfl) ⟨(Nat.le_of_ble_eq_true rfl), (Nat.le_of_ble_eq_true rfl)⟩ dL_act_140 ⟨(Nat.le_of_ble_eq_true rfl), (Nat.le_of_ble_eq_true rfl)⟩ (fun r H locs hp hS => ?_)
    obtain ⟨rfl, hH⟩ := hp
    refine lv_istore (lv' := [(7, .int (lowf (v >>> (nI 4 &&& 31)) (nI 40))), (6, .int (nI 1 + (lowf (v >>> (nI 9 &&& 31)) (nI 31)))), (5, .int ((lowf (v >>> (nI 11 &&& 31)) (nI 4)) - nI 1)), (4, .int (lowf (v >>> (nI 8 &&& 31)) (nI 3))), (3, .int (lowf (v >>> (nI 5 &&& 31)) (nI 5))), (2, .int (nI 0)), (0, .ref (al (0, 0, 0))), (1, .int v)]) hx hb dL_act_143 hl (by decide) rfl (fun ls hl => ?_)
    refine lv_iload_n hx hb dL_act_145 rfl (lv_at hl 7 rfl) ?_
    refine lv_bipush (v := nI 32) hx hb dL_act_146 (by decide +kernel) ?_
    refine x_callS C hS (c_low l (E := E) (base := base) (v := v) (n := nI 32) (by decide +kernel)) hH kL_low qw_113 qw_112 rfl [] rfl hl.1 (Nat.le_of_ble_eq_true rfl) ⟨(Nat.le_of_ble_eq_true rfl), (Nat.le_of_ble_eq_true rfl)⟩ dL_act_148 ⟨(Nat.le_of_ble_eq_true rfl), (Nat.le_of_ble_eq_true rfl)⟩ (fun r H locs hp hS => ?_)
    obtain ⟨rfl, hH⟩ := hp
    obtain ⟨kk, hkk⟩ : ∃ z, z = (lowf v (nI 32)) := ⟨_, rfl⟩
    rw [← hkk]
    rcases sw30 kk with h9 | ⟨j, hj, rfl⟩
    · skip
      refine lv_tableOut (tgt := 591) hx hb dL_act_151 h9 rfl ?_
      have hs : swk ((lowf v (nI 32))) = 30 := by rw [← hkk]; exact swk_o h9
      refine lv_aload_n hx hb dL_act_591 rfl (lv_at hl 6 rfl) ?_
      refine lv_iload hx hb dL_act_592 (lv_at hl 3 rfl) ?_
      refine lv_iload_n hx hb dL_act_594 rfl (lv_at hl 5 rfl) ?_
      refine lv_if_eq (tgt := 603) hx hb dL_act_595 (by decide) (fun c_6 => ?_) (fun c_6 => absurd (by decide +kernel) c_6)
      clear c_6
      refine lv_iload_n hx hb dL_act_603 rfl (lv_at hl 7 rfl) ?_
      refine lv_iconst (v := nI 4) hx hb dL_act_604 (by decide +kernel) ?_
      refine lv_ishr hx hb dL_act_605 ?_
      refine lv_bipush (v := nI 6) hx hb dL_act_606 (by decide +kernel) ?_
      refine x_callS C hS (c_low l (E := E) (base := base) (v := (v >>> (nI 4 &&& 31))) (n := nI 6) (by decide +kernel)) hH kL_low qw_113 qw_112 rfl [.int (lowf (v >>> (nI 8 &&& 31)) (nI 3)), .ref (al (0, 0, 0))] rfl hl.1 (Nat.le_of_ble_eq_true rfl) ⟨(Nat.le_of_ble_eq_true rfl), (Nat.le_of_ble_eq_true rfl)⟩ dL_act_608 ⟨(Nat.le_of_ble_eq_true rfl), (Nat.le_of_ble_eq_true rfl)⟩ (fun r H locs hp hS => ?_)
      obtain ⟨rfl, hH⟩ := hp
      refine x_callH (k := 3) C hS (l_count l hfl (E := E) (base := base) hI (x := (lowf (v >>> (nI 8 &&& 31)) (nI 3))) (z := (lowf (v >>> (nI 4 &&& 31)) (nI 6))) al w hR) hH qw_641 qw_0 ⟨by decide +kernel, by decide +kernel, by decide +kernel⟩ qw_640 qw_639 rfl [] rfl hl.1 (Nat.le_of_ble_eq_true rfl) ⟨(Nat.le_of_ble_eq_true rfl), (Nat.le_of_ble_eq_true rfl)⟩ dL_act_611 ⟨(Nat.le_of_ble_eq_true rfl), (Nat.le_of_ble_eq_true rfl)⟩ (fun r H locs hp hS => ?_)
      obtain ⟨rfl, hP⟩ := hp
      have hf : f_act S v = f_count S (lowf (v >>> (nI 8 &&& 31)) (nI 3)) (lowf (v >>> (nI 4 &&& 31)) (nI 6)) := (cif_f hodd).trans (by rw [hs]; rfl)
      rw [← hQ]
      refine x_reti C rfl hS (Nat.le_of_ble_eq_true rfl) (Nat.le_of_ble_eq_true rfl) dL_act_614 ?_
      rw [hpost]
      exact ⟨by rw [hf], by rw [hf]; exact hP⟩
    · skip
      rcases (show j = 0 ∨ j = 1 ∨ j = 2 ∨ j = 3 ∨ j = 4 ∨ j = 5 ∨ j = 6 ∨ j = 7 ∨ j = 8 ∨ j = 9 ∨ j = 10 ∨ j = 11 ∨ j = 12 ∨ j = 13 ∨ j = 14 ∨ j = 15 ∨ j = 16 ∨ j = 17 ∨ j = 18 ∨ j = 19 ∨ j = 20 ∨ j = 21 ∨ j = 22 ∨ j = 23 ∨ j = 24 ∨ j = 25 ∨ j = 26 ∨ j = 27 ∨ j = 28 ∨ j = 29 by omega) with rfl | rfl | rfl | rfl | rfl | rfl | rfl | rfl | rfl | rfl | rfl | rfl | rfl | rfl | rfl | rfl | rfl | rfl | rfl | rfl | rfl | rfl | rfl | rfl | rfl | rfl | rfl | rfl | rfl | rfl
      · skip
        refine lv_tableIn (tgt := 284) (off := 133) hx hb dL_act_151 (by decide +kernel) (by decide +kernel) rfl rfl ?_
        have hs : swk ((lowf v (nI 32))) = 0 := by rw [← hkk]; decide +kernel
        refine lv_aload_n hx hb dL_act_284 rfl (lv_at hl 6 rfl) ?_
        refine lv_iload_n hx hb dL_act_285 rfl (lv_at hl 5 rfl) ?_
        refine lv_if_eq (tgt := 294) hx hb dL_act_286 (by decide) (fun c_7 => ?_) (fun c_7 => absurd (by decide +kernel) c_7)
        clear c_7
        refine lv_iload_n hx hb dL_act_294 rfl (lv_at hl 7 rfl) ?_
        refine lv_bipush (v := nI 9) hx hb dL_act_295 (by decide +kernel) ?_
        refine lv_ishr hx hb dL_act_297 ?_
        refine lv_sipush (v := nI 256) hx hb dL_act_298 (by decide +kernel) ?_
        refine x_callS C hS (c_low l (E := E) (base := base) (v := (v >>> (nI 9 &&& 31))) (n := nI 256) (by decide +kernel)) hH kL_low qw_113 qw_112 rfl [.ref (al (0, 0, 0))] rfl hl.1 (Nat.le_of_ble_eq_true rfl) ⟨(Nat.le_of_ble_eq_true rfl), (Nat.le_of_ble_eq_true rfl)⟩ dL_act_301 ⟨(Nat.le_of_ble_eq_true rfl), (Nat.le_of_ble_eq_true rfl)⟩ (fun r H locs hp hS => ?_)
        obtain ⟨rfl, hH⟩ := hp
        refine x_callH (k := 2) C hS (l_file l hfl (E := E) (base := base) hI (x := (lowf (v >>> (nI 9 &&& 31)) (nI 256))) al w hR) hH qw_118 qw_0 ⟨by decide +kernel, by decide +kernel, by decide +kernel⟩ qw_117 qw_116 rfl [] rfl hl.1 (Nat.le_of_ble_eq_true rfl) ⟨(Nat.le_of_ble_eq_true rfl), (Nat.le_of_ble_eq_true rfl)⟩ dL_act_304 ⟨(Nat.le_of_ble_eq_true rfl), (Nat.le_of_ble_eq_true rfl)⟩ (fun r H locs hp hS => ?_)
        obtain ⟨rfl, hP⟩ := hp
        have hf : f_act S v = f_file S (lowf (v >>> (nI 9 &&& 31)) (nI 256)) := (cif_f hodd).trans (by rw [hs]; rfl)
        rw [← hQ]
        refine x_reti C rfl hS (Nat.le_of_ble_eq_true rfl) (Nat.le_of_ble_eq_true rfl) dL_act_307 ?_
        rw [hpost]
        exact ⟨by rw [hf], by rw [hf]; exact hP⟩
      · skip
        refine lv_tableIn (tgt := 284) (off := 133) hx hb dL_act_151 (by decide +kernel) (by decide +kernel) rfl rfl ?_
        have hs : swk ((lowf v (nI 32))) = 1 := by rw [← hkk]; decide +kernel
        refine lv_aload_n hx hb dL_act_284 rfl (lv_at hl 6 rfl) ?_
        refine lv_iload_n hx hb dL_act_285 rfl (lv_at hl 5 rfl) ?_
        refine lv_if_eq (tgt := 294) hx hb dL_act_286 (by decide) (fun c_8 => ?_) (fun c_8 => absurd (by decide +kernel) c_8)
        clear c_8
        refine lv_iload_n hx hb dL_act_294 rfl (lv_at hl 7 rfl) ?_
        refine lv_bipush (v := nI 9) hx hb dL_act_295 (by decide +kernel) ?_
        refine lv_ishr hx hb dL_act_297 ?_
        refine lv_sipush (v := nI 256) hx hb dL_act_298 (by decide +kernel) ?_
        refine x_callS C hS (c_low l (E := E) (base := base) (v := (v >>> (nI 9 &&& 31))) (n := nI 256) (by decide +kernel)) hH kL_low qw_113 qw_112 rfl [.ref (al (0, 0, 0))] rfl hl.1 (Nat.le_of_ble_eq_true rfl) ⟨(Nat.le_of_ble_eq_true rfl), (Nat.le_of_ble_eq_true rfl)⟩ dL_act_301 ⟨(Nat.le_of_ble_eq_true rfl), (Nat.le_of_ble_eq_true rfl)⟩ (fun r H locs hp hS => ?_)
        obtain ⟨rfl, hH⟩ := hp
        refine x_callH (k := 2) C hS (l_file l hfl (E := E) (base := base) hI (x := (lowf (v >>> (nI 9 &&& 31)) (nI 256))) al w hR) hH qw_118 qw_0 ⟨by decide +kernel, by decide +kernel, by decide +kernel⟩ qw_117 qw_116 rfl [] rfl hl.1 (Nat.le_of_ble_eq_true rfl) ⟨(Nat.le_of_ble_eq_true rfl), (Nat.le_of_ble_eq_true rfl)⟩ dL_act_304 ⟨(Nat.le_of_ble_eq_true rfl), (Nat.le_of_ble_eq_true rfl)⟩ (fun r H locs hp hS => ?_)
        obtain ⟨rfl, hP⟩ := hp
        have hf : f_act S v = f_file S (lowf (v >>> (nI 9 &&& 31)) (nI 256)) := (cif_f hodd).trans (by rw [hs]; rfl)
        rw [← hQ]
        refine x_reti C rfl hS (Nat.le_of_ble_eq_true rfl) (Nat.le_of_ble_eq_true rfl) dL_act_307 ?_
        rw [hpost]
        exact ⟨by rw [hf], by rw [hf]; exact hP⟩
      · skip
        refine lv_tableIn (tgt := 284) (off := 133) hx hb dL_act_151 (by decide +kernel) (by decide +kernel) rfl rfl ?_
        have hs : swk ((lowf v (nI 32))) = 2 := by rw [← hkk]; decide +kernel
        refine lv_aload_n hx hb dL_act_284 rfl (lv_at hl 6 rfl) ?_
        refine lv_iload_n hx hb dL_act_285 rfl (lv_at hl 5 rfl) ?_
        refine lv_if_eq (tgt := 294) hx hb dL_act_286 (by decide) (fun c_9 => ?_) (fun c_9 => absurd (by decide +kernel) c_9)
        clear c_9
        refine lv_iload_n hx hb dL_act_294 rfl (lv_at hl 7 rfl) ?_
        refine lv_bipush (v := nI 9) hx hb dL_act_295 (by decide +kernel) ?_
        refine lv_ishr hx hb dL_act_297 ?_
        refine lv_sipush (v := nI 256) hx hb dL_act_298 (by decide +kernel) ?_
        refine x_callS C hS (c_low l (E := E) (base := base) (v := (v >>> (nI 9 &&& 31))) (n := nI 256) (by decide +kernel)) hH kL_low qw_113 qw_112 rfl [.ref (al (0, 0, 0))] rfl hl.1 (Nat.le_of_ble_eq_true rfl) ⟨(Nat.le_of_ble_eq_true rfl), (Nat.le_of_ble_eq_true rfl)⟩ dL_act_301 ⟨(Nat.le_of_ble_eq_true rfl), (Nat.le_of_ble_eq_true rfl)⟩ (fun r H locs hp hS => ?_)
        obtain ⟨rfl, hH⟩ := hp
        refine x_callH (k := 2) C hS (l_file l hfl (E := E) (base := base) hI (x := (lowf (v >>> (nI 9 &&& 31)) (nI 256))) al w hR) hH qw_118 qw_0 ⟨by decide +kernel, by decide +kernel, by decide +kernel⟩ qw_117 qw_116 rfl [] rfl hl.1 (Nat.le_of_ble_eq_true rfl) ⟨(Nat.le_of_ble_eq_true rfl), (Nat.le_of_ble_eq_true rfl)⟩ dL_act_304 ⟨(Nat.le_of_ble_eq_true rfl), (Nat.le_of_ble_eq_true rfl)⟩ (fun r H locs hp hS => ?_)
        obtain ⟨rfl, hP⟩ := hp
        have hf : f_act S v = f_file S (lowf (v >>> (nI 9 &&& 31)) (nI 256)) := (cif_f hodd).trans (by rw [hs]; rfl)
        rw [← hQ]
        refine x_reti C rfl hS (Nat.le_of_ble_eq_true rfl) (Nat.le_of_ble_eq_true rfl) dL_act_307 ?_
        rw [hpost]
        exact ⟨by rw [hf], by rw [hf]; exact hP⟩
      · skip
        refine lv_tableIn (tgt := 308) (off := 157) hx hb dL_act_151 (by decide +kernel) (by decide +kernel) rfl rfl ?_
        have hs : swk ((lowf v (nI 32))) = 3 := by rw [← hkk]; decide +kernel
        refine lv_aload_n hx hb dL_act_308 rfl (lv_at hl 6 rfl) ?_
        refine lv_iload_n hx hb dL_act_309 rfl (lv_at hl 4 rfl) ?_
        refine lv_iload_n hx hb dL_act_310 rfl (lv_at hl 5 rfl) ?_
        refine lv_if_eq (tgt := 319) hx hb dL_act_311 (by decide) (fun c_10 => ?_) (fun c_10 => absurd (by decide +kernel) c_10)
        clear c_10
        refine lv_iload_n hx hb dL_act_319 rfl (lv_at hl 7 rfl) ?_
        refine lv_bipush (v := nI 9) hx hb dL_act_320 (by decide +kernel) ?_
        refine lv_ishr hx hb dL_act_322 ?_
        refine lv_sipush (v := nI 256) hx hb dL_act_323 (by decide +kernel) ?_
        refine x_callS C hS (c_low l (E := E) (base := base) (v := (v >>> (nI 9 &&& 31))) (n := nI 256) (by decide +kernel)) hH kL_low qw_113 qw_112 rfl [.int (lowf (v >>> (nI 5 &&& 31)) (nI 5)), .ref (al (0, 0, 0))] rfl hl.1 (Nat.le_of_ble_eq_true rfl) ⟨(Nat.le_of_ble_eq_true rfl), (Nat.le_of_ble_eq_true rfl)⟩ dL_act_326 ⟨(Nat.le_of_ble_eq_true rfl), (Nat.le_of_ble_eq_true rfl)⟩ (fun r H locs hp hS => ?_)
        obtain ⟨rfl, hH⟩ := hp
        refine x_callH (k := 3) C hS (l_change l hfl (E := E) (base := base) hI (x := (lowf (v >>> (nI 5 &&& 31)) (nI 5))) (y := (lowf (v >>> (nI 9 &&& 31)) (nI 256))) al w hR) hH qw_292 qw_0 ⟨by decide +kernel, by decide +kernel, by decide +kernel⟩ qw_291 qw_290 rfl [] rfl hl.1 (Nat.le_of_ble_eq_true rfl) ⟨(Nat.le_of_ble_eq_true rfl), (Nat.le_of_ble_eq_true rfl)⟩ dL_act_329 ⟨(Nat.le_of_ble_eq_true rfl), (Nat.le_of_ble_eq_true rfl)⟩ (fun r H locs hp hS => ?_)
        obtain ⟨rfl, hP⟩ := hp
        have hf : f_act S v = f_change S (lowf (v >>> (nI 5 &&& 31)) (nI 5)) (lowf (v >>> (nI 9 &&& 31)) (nI 256)) := (cif_f hodd).trans (by rw [hs]; rfl)
        rw [← hQ]
        refine x_reti C rfl hS (Nat.le_of_ble_eq_true rfl) (Nat.le_of_ble_eq_true rfl) dL_act_332 ?_
        rw [hpost]
        exact ⟨by rw [hf], by rw [hf]; exact hP⟩
      · skip
        refine lv_tableIn (tgt := 333) (off := 182) hx hb dL_act_151 (by decide +kernel) (by decide +kernel) rfl rfl ?_
        have hs : swk ((lowf v (nI 32))) = 4 := by rw [← hkk]; decide +kernel
        refine lv_aload_n hx hb dL_act_333 rfl (lv_at hl 6 rfl) ?_
        refine lv_iload_n hx hb dL_act_334 rfl (lv_at hl 5 rfl) ?_
        refine lv_if_eq (tgt := 343) hx hb dL_act_335 (by decide) (fun c_11 => ?_) (fun c_11 => absurd (by decide +kernel) c_11)
        clear c_11
        refine lv_iload_n hx hb dL_act_343 rfl (lv_at hl 7 rfl) ?_
        refine lv_bipush (v := nI 9) hx hb dL_act_344 (by decide +kernel) ?_
        refine lv_ishr hx hb dL_act_346 ?_
        refine lv_bipush (v := nI 60) hx hb dL_act_347 (by decide +kernel) ?_
        refine x_callS C hS (c_low l (E := E) (base := base) (v := (v >>> (nI 9 &&& 31))) (n := nI 60) (by decide +kernel)) hH kL_low qw_113 qw_112 rfl [.ref (al (0, 0, 0))] rfl hl.1 (Nat.le_of_ble_eq_true rfl) ⟨(Nat.le_of_ble_eq_true rfl), (Nat.le_of_ble_eq_true rfl)⟩ dL_act_349 ⟨(Nat.le_of_ble_eq_true rfl), (Nat.le_of_ble_eq_true rfl)⟩ (fun r H locs hp hS => ?_)
        obtain ⟨rfl, hH⟩ := hp
        refine x_callH (k := 2) C hS (l_party l hfl (E := E) (base := base) hI (x := (lowf (v >>> (nI 9 &&& 31)) (nI 60))) al w hR) hH qw_375 qw_0 ⟨by decide +kernel, by decide +kernel, by decide +kernel⟩ qw_374 qw_373 rfl [] rfl hl.1 (Nat.le_of_ble_eq_true rfl) ⟨(Nat.le_of_ble_eq_true rfl), (Nat.le_of_ble_eq_true rfl)⟩ dL_act_352 ⟨(Nat.le_of_ble_eq_true rfl), (Nat.le_of_ble_eq_true rfl)⟩ (fun r H locs hp hS => ?_)
        obtain ⟨rfl, hP⟩ := hp
        have hf : f_act S v = f_party S (lowf (v >>> (nI 9 &&& 31)) (nI 60)) := (cif_f hodd).trans (by rw [hs]; rfl)
        rw [← hQ]
        refine x_reti C rfl hS (Nat.le_of_ble_eq_true rfl) (Nat.le_of_ble_eq_true rfl) dL_act_355 ?_
        rw [hpost]
        exact ⟨by rw [hf], by rw [hf]; exact hP⟩
      · skip
        refine lv_tableIn (tgt := 333) (off := 182) hx hb dL_act_151 (by decide +kernel) (by decide +kernel) rfl rfl ?_
        have hs : swk ((lowf v (nI 32))) = 5 := by rw [← hkk]; decide +kernel
        refine lv_aload_n hx hb dL_act_333 rfl (lv_at hl 6 rfl) ?_
        refine lv_iload_n hx hb dL_act_334 rfl (lv_at hl 5 rfl) ?_
        refine lv_if_eq (tgt := 343) hx hb dL_act_335 (by decide) (fun c_12 => ?_) (fun c_12 => absurd (by decide +kernel) c_12)
        clear c_12
        refine lv_iload_n hx hb dL_act_343 rfl (lv_at hl 7 rfl) ?_
        refine lv_bipush (v := nI 9) hx hb dL_act_344 (by decide +kernel) ?_
        refine lv_ishr hx hb dL_act_346 ?_
        refine lv_bipush (v := nI 60) hx hb dL_act_347 (by decide +kernel) ?_
        refine x_callS C hS (c_low l (E := E) (base := base) (v := (v >>> (nI 9 &&& 31))) (n := nI 60) (by decide +kernel)) hH kL_low qw_113 qw_112 rfl [.ref (al (0, 0, 0))] rfl hl.1 (Nat.le_of_ble_eq_true rfl) ⟨(Nat.le_of_ble_eq_true rfl), (Nat.le_of_ble_eq_true rfl)⟩ dL_act_349 ⟨(Nat.le_of_ble_eq_true rfl), (Nat.le_of_ble_eq_true rfl)⟩ (fun r H locs hp hS => ?_)
        obtain ⟨rfl, hH⟩ := hp
        refine x_callH (k := 2) C hS (l_party l hfl (E := E) (base := base) hI (x := (lowf (v >>> (nI 9 &&& 31)) (nI 60))) al w hR) hH qw_375 qw_0 ⟨by decide +kernel, by decide +kernel, by decide +kernel⟩ qw_374 qw_373 rfl [] rfl hl.1 (Nat.le_of_ble_eq_true rfl) ⟨(Nat.le_of_ble_eq_true rfl), (Nat.le_of_ble_eq_true rfl)⟩ dL_act_352 ⟨(Nat.le_of_ble_eq_true rfl), (Nat.le_of_ble_eq_true rfl)⟩ (fun r H locs hp hS => ?_)
        obtain ⟨rfl, hP⟩ := hp
        have hf : f_act S v = f_party S (lowf (v >>> (nI 9 &&& 31)) (nI 60)) := (cif_f hodd).trans (by rw [hs]; rfl)
        rw [← hQ]
        refine x_reti C rfl hS (Nat.le_of_ble_eq_true rfl) (Nat.le_of_ble_eq_true rfl) dL_act_355 ?_
        rw [hpost]
        exact ⟨by rw [hf], by rw [hf]; exact hP⟩
      · skip
        refine lv_tableIn (tgt := 356) (off := 205) hx hb dL_act_151 (by decide +kernel) (by decide +kernel) rfl rfl ?_
        have hs : swk ((lowf v (nI 32))) = 6 := by rw [← hkk]; decide +kernel
        refine lv_aload_n hx hb dL_act_356 rfl (lv_at hl 6 rfl) ?_
        refine lv_iload hx hb dL_act_357 (lv_at hl 3 rfl) ?_
        refine lv_iload_n hx hb dL_act_359 rfl (lv_at hl 5 rfl) ?_
        refine lv_if_eq (tgt := 368) hx hb dL_act_360 (by decide) (fun c_13 => ?_) (fun c_13 => absurd (by decide +kernel) c_13)
        clear c_13
        refine lv_iload_n hx hb dL_act_368 rfl (lv_at hl 7 rfl) ?_
        refine lv_bipush (v := nI 9) hx hb dL_act_369 (by decide +kernel) ?_
        refine lv_ishr hx hb dL_act_371 ?_
        refine lv_bipush (v := nI 100) hx hb dL_act_372 (by decide +kernel) ?_
        refine x_callS C hS (c_low l (E := E) (base := base) (v := (v >>> (nI 9 &&& 31))) (n := nI 100) (by decide +kernel)) hH kL_low qw_113 qw_112 rfl [.int (lowf (v >>> (nI 8 &&& 31)) (nI 3)), .ref (al (0, 0, 0))] rfl hl.1 (Nat.le_of_ble_eq_true rfl) ⟨(Nat.le_of_ble_eq_true rfl), (Nat.le_of_ble_eq_true rfl)⟩ dL_act_374 ⟨(Nat.le_of_ble_eq_true rfl), (Nat.le_of_ble_eq_true rfl)⟩ (fun r H locs hp hS => ?_)
        obtain ⟨rfl, hH⟩ := hp
        refine x_callH (k := 3) C hS (l_budget l hfl (E := E) (base := base) hI (x := (lowf (v >>> (nI 8 &&& 31)) (nI 3))) (y := (lowf (v >>> (nI 9 &&& 31)) (nI 100))) al w hR) hH qw_413 qw_0 ⟨by decide +kernel, by decide +kernel, by decide +kernel⟩ qw_412 qw_411 rfl [] rfl hl.1 (Nat.le_of_ble_eq_true rfl) ⟨(Nat.le_of_ble_eq_true rfl), (Nat.le_of_ble_eq_true rfl)⟩ dL_act_377 ⟨(Nat.le_of_ble_eq_true rfl), (Nat.le_of_ble_eq_true rfl)⟩ (fun r H locs hp hS => ?_)
        obtain ⟨rfl, hP⟩ := hp
        have hf : f_act S v = f_budget S (lowf (v >>> (nI 8 &&& 31)) (nI 3)) (lowf (v >>> (nI 9 &&& 31)) (nI 100)) := (cif_f hodd).trans (by rw [hs]; rfl)
        rw [← hQ]
        refine x_reti C rfl hS (Nat.le_of_ble_eq_true rfl) (Nat.le_of_ble_eq_true rfl) dL_act_380 ?_
        rw [hpost]
        exact ⟨by rw [hf], by rw [hf]; exact hP⟩
      · skip
        refine lv_tableIn (tgt := 381) (off := 230) hx hb dL_act_151 (by decide +kernel) (by decide +kernel) rfl rfl ?_
        have hs : swk ((lowf v (nI 32))) = 7 := by rw [← hkk]; decide +kernel
        refine lv_aload_n hx hb dL_act_381 rfl (lv_at hl 6 rfl) ?_
        refine lv_iload hx hb dL_act_382 (lv_at hl 3 rfl) ?_
        refine lv_iload_n hx hb dL_act_384 rfl (lv_at hl 4 rfl) ?_
        refine lv_iload_n hx hb dL_act_385 rfl (lv_at hl 5 rfl) ?_
        refine lv_if_eq (tgt := 394) hx hb dL_act_386 (by decide) (fun c_14 => ?_) (fun c_14 => absurd (by decide +kernel) c_14)
        clear c_14
        refine lv_iconst (v := nI 1) hx hb dL_act_394 (by decide +kernel) ?_
        refine lv_iload_n hx hb dL_act_395 rfl (lv_at hl 7 rfl) ?_
        refine lv_bipush (v := nI 11) hx hb dL_act_396 (by decide +kernel) ?_
        refine lv_ishr hx hb dL_act_398 ?_
        refine lv_iconst (v := nI 2) hx hb dL_act_399 (by decide +kernel) ?_
        refine x_callS C hS (c_low l (E := E) (base := base) (v := (v >>> (nI 11 &&& 31))) (n := nI 2) (by decide +kernel)) hH kL_low qw_113 qw_112 rfl [.int (nI 1), .int (lowf (v >>> (nI 5 &&& 31)) (nI 5)), .int (lowf (v >>> (nI 8 &&& 31)) (nI 3)), .ref (al (0, 0, 0))] rfl hl.1 (Nat.le_of_ble_eq_true rfl) ⟨(Nat.le_of_ble_eq_true rfl), (Nat.le_of_ble_eq_true rfl)⟩ dL_act_400 ⟨(Nat.le_of_ble_eq_true rfl), (Nat.le_of_ble_eq_true rfl)⟩ (fun r H locs hp hS => ?_)
        obtain ⟨rfl, hH⟩ := hp
        refine lv_iadd hx hb dL_act_403 ?_
        refine lv_iload hx hb dL_act_404 (lv_at hl 0 rfl) ?_
        refine lv_iconst (v := nI 4) hx hb dL_act_406 (by decide +kernel) ?_
        refine lv_idiv hx hb dL_act_407 (by decide +kernel) ?_
        refine lv_iload_n hx hb dL_act_408 rfl (lv_at hl 5 rfl) ?_
        refine lv_if_eq (tgt := 417) hx hb dL_act_409 (by decide) (fun c_15 => ?_) (fun c_15 => absurd (by decide +kernel) c_15)
        clear c_15
        refine lv_iload hx hb dL_act_417 (lv_at hl 0 rfl) ?_
        refine lv_iconst (v := nI 4) hx hb dL_act_419 (by decide +kernel) ?_
        refine lv_idiv hx hb dL_act_420 (by decide +kernel) ?_
        refine lv_iload_n hx hb dL_act_421 rfl (lv_at hl 7 rfl) ?_
        refine lv_bipush (v := nI 9) hx hb dL_act_422 (by decide +kernel) ?_
        refine lv_ishr hx hb dL_act_424 ?_
        refine lv_sipush (v := nI 200) hx hb dL_act_425 (by decide +kernel) ?_
        refine x_callS C hS (c_low l (E := E) (base := base) (v := (v >>> (nI 9 &&& 31))) (n := nI 200) (by decide +kernel)) hH kL_low qw_113 qw_112 rfl [.int ((lowf (v >>> (nI 4 &&& 31)) (nI 40)) / nI 4), .int ((lowf (v >>> (nI 4 &&& 31)) (nI 40)) / nI 4), .int (nI 1 + (lowf (v >>> (nI 11 &&& 31)) (nI 2))), .int (lowf (v >>> (nI 5 &&& 31)) (nI 5)), .int (lowf (v >>> (nI 8 &&& 31)) (nI 3)), .ref (al (0, 0, 0))] rfl hl.1 (Nat.le_of_ble_eq_true rfl) ⟨(Nat.le_of_ble_eq_true rfl), (Nat.le_of_ble_eq_true rfl)⟩ dL_act_428 ⟨(Nat.le_of_ble_eq_true rfl), (Nat.le_of_ble_eq_true rfl)⟩ (fun r H locs hp hS => ?_)
        obtain ⟨rfl, hH⟩ := hp
        refine lv_iadd hx hb dL_act_431 ?_
        refine x_callH (k := 6) C hS (l_right l hfl (E := E) (base := base) hI (x := (lowf (v >>> (nI 8 &&& 31)) (nI 3))) (y := (lowf (v >>> (nI 5 &&& 31)) (nI 5))) (k := (nI 1 + (lowf (v >>> (nI 11 &&& 31)) (nI 2)))) (a := ((lowf (v >>> (nI 4 &&& 31)) (nI 40)) / nI 4)) (b := (((lowf (v >>> (nI 4 &&& 31)) (nI 40)) / nI 4) + (lowf (v >>> (nI 9 &&& 31)) (nI 200)))) al w hR) hH qw_425 qw_0 ⟨by decide +kernel, by decide +kernel, by decide +kernel⟩ qw_424 qw_423 rfl [] rfl hl.1 (Nat.le_of_ble_eq_true rfl) ⟨(Nat.le_of_ble_eq_true rfl), (Nat.le_of_ble_eq_true rfl)⟩ dL_act_432 ⟨(Nat.le_of_ble_eq_true rfl), (Nat.le_of_ble_eq_true rfl)⟩ (fun r H locs hp hS => ?_)
        obtain ⟨rfl, hP⟩ := hp
        have hf : f_act S v = f_right S (lowf (v >>> (nI 8 &&& 31)) (nI 3)) (lowf (v >>> (nI 5 &&& 31)) (nI 5)) (nI 1 + (lowf (v >>> (nI 11 &&& 31)) (nI 2))) ((lowf (v >>> (nI 4 &&& 31)) (nI 40)) / nI 4) (((lowf (v >>> (nI 4 &&& 31)) (nI 40)) / nI 4) + (lowf (v >>> (nI 9 &&& 31)) (nI 200))) := (cif_f hodd).trans (by rw [hs]; rfl)
        rw [← hQ]
        refine x_reti C rfl hS (Nat.le_of_ble_eq_true rfl) (Nat.le_of_ble_eq_true rfl) dL_act_435 ?_
        rw [hpost]
        exact ⟨by rw [hf], by rw [hf]; exact hP⟩
      · skip
        refine lv_tableIn (tgt := 381) (off := 230) hx hb dL_act_151 (by decide +kernel) (by decide +kernel) rfl rfl ?_
        have hs : swk ((lowf v (nI 32))) = 8 := by rw [← hkk]; decide +kernel
        refine lv_aload_n hx hb dL_act_381 rfl (lv_at hl 6 rfl) ?_
        refine lv_iload hx hb dL_act_382 (lv_at hl 3 rfl) ?_
        refine lv_iload_n hx hb dL_act_384 rfl (lv_at hl 4 rfl) ?_
        refine lv_iload_n hx hb dL_act_385 rfl (lv_at hl 5 rfl) ?_
        refine lv_if_eq (tgt := 394) hx hb dL_act_386 (by decide) (fun c_16 => ?_) (fun c_16 => absurd (by decide +kernel) c_16)
        clear c_16
        refine lv_iconst (v := nI 1) hx hb dL_act_394 (by decide +kernel) ?_
        refine lv_iload_n hx hb dL_act_395 rfl (lv_at hl 7 rfl) ?_
        refine lv_bipush (v := nI 11) hx hb dL_act_396 (by decide +kernel) ?_
        refine lv_ishr hx hb dL_act_398 ?_
        refine lv_iconst (v := nI 2) hx hb dL_act_399 (by decide +kernel) ?_
        refine x_callS C hS (c_low l (E := E) (base := base) (v := (v >>> (nI 11 &&& 31))) (n := nI 2) (by decide +kernel)) hH kL_low qw_113 qw_112 rfl [.int (nI 1), .int (lowf (v >>> (nI 5 &&& 31)) (nI 5)), .int (lowf (v >>> (nI 8 &&& 31)) (nI 3)), .ref (al (0, 0, 0))] rfl hl.1 (Nat.le_of_ble_eq_true rfl) ⟨(Nat.le_of_ble_eq_true rfl), (Nat.le_of_ble_eq_true rfl)⟩ dL_act_400 ⟨(Nat.le_of_ble_eq_true rfl), (Nat.le_of_ble_eq_true rfl)⟩ (fun r H locs hp hS => ?_)
        obtain ⟨rfl, hH⟩ := hp
        refine lv_iadd hx hb dL_act_403 ?_
        refine lv_iload hx hb dL_act_404 (lv_at hl 0 rfl) ?_
        refine lv_iconst (v := nI 4) hx hb dL_act_406 (by decide +kernel) ?_
        refine lv_idiv hx hb dL_act_407 (by decide +kernel) ?_
        refine lv_iload_n hx hb dL_act_408 rfl (lv_at hl 5 rfl) ?_
        refine lv_if_eq (tgt := 417) hx hb dL_act_409 (by decide) (fun c_17 => ?_) (fun c_17 => absurd (by decide +kernel) c_17)
        clear c_17
        refine lv_iload hx hb dL_act_417 (lv_at hl 0 rfl) ?_
        refine lv_iconst (v := nI 4) hx hb dL_act_419 (by decide +kernel) ?_
        refine lv_idiv hx hb dL_act_420 (by decide +kernel) ?_
        refine lv_iload_n hx hb dL_act_421 rfl (lv_at hl 7 rfl) ?_
        refine lv_bipush (v := nI 9) hx hb dL_act_422 (by decide +kernel) ?_
        refine lv_ishr hx hb dL_act_424 ?_
        refine lv_sipush (v := nI 200) hx hb dL_act_425 (by decide +kernel) ?_
        refine x_callS C hS (c_low l (E := E) (base := base) (v := (v >>> (nI 9 &&& 31))) (n := nI 200) (by decide +kernel)) hH kL_low qw_113 qw_112 rfl [.int ((lowf (v >>> (nI 4 &&& 31)) (nI 40)) / nI 4), .int ((lowf (v >>> (nI 4 &&& 31)) (nI 40)) / nI 4), .int (nI 1 + (lowf (v >>> (nI 11 &&& 31)) (nI 2))), .int (lowf (v >>> (nI 5 &&& 31)) (nI 5)), .int (lowf (v >>> (nI 8 &&& 31)) (nI 3)), .ref (al (0, 0, 0))] rfl hl.1 (Nat.le_of_ble_eq_true rfl) ⟨(Nat.le_of_ble_eq_true rfl), (Nat.le_of_ble_eq_true rfl)⟩ dL_act_428 ⟨(Nat.le_of_ble_eq_true rfl), (Nat.le_of_ble_eq_true rfl)⟩ (fun r H locs hp hS => ?_)
        obtain ⟨rfl, hH⟩ := hp
        refine lv_iadd hx hb dL_act_431 ?_
        refine x_callH (k := 6) C hS (l_right l hfl (E := E) (base := base) hI (x := (lowf (v >>> (nI 8 &&& 31)) (nI 3))) (y := (lowf (v >>> (nI 5 &&& 31)) (nI 5))) (k := (nI 1 + (lowf (v >>> (nI 11 &&& 31)) (nI 2)))) (a := ((lowf (v >>> (nI 4 &&& 31)) (nI 40)) / nI 4)) (b := (((lowf (v >>> (nI 4 &&& 31)) (nI 40)) / nI 4) + (lowf (v >>> (nI 9 &&& 31)) (nI 200)))) al w hR) hH qw_425 qw_0 ⟨by decide +kernel, by decide +kernel, by decide +kernel⟩ qw_424 qw_423 rfl [] rfl hl.1 (Nat.le_of_ble_eq_true rfl) ⟨(Nat.le_of_ble_eq_true rfl), (Nat.le_of_ble_eq_true rfl)⟩ dL_act_432 ⟨(Nat.le_of_ble_eq_true rfl), (Nat.le_of_ble_eq_true rfl)⟩ (fun r H locs hp hS => ?_)
        obtain ⟨rfl, hP⟩ := hp
        have hf : f_act S v = f_right S (lowf (v >>> (nI 8 &&& 31)) (nI 3)) (lowf (v >>> (nI 5 &&& 31)) (nI 5)) (nI 1 + (lowf (v >>> (nI 11 &&& 31)) (nI 2))) ((lowf (v >>> (nI 4 &&& 31)) (nI 40)) / nI 4) (((lowf (v >>> (nI 4 &&& 31)) (nI 40)) / nI 4) + (lowf (v >>> (nI 9 &&& 31)) (nI 200))) := (cif_f hodd).trans (by rw [hs]; rfl)
        rw [← hQ]
        refine x_reti C rfl hS (Nat.le_of_ble_eq_true rfl) (Nat.le_of_ble_eq_true rfl) dL_act_435 ?_
        rw [hpost]
        exact ⟨by rw [hf], by rw [hf]; exact hP⟩
      · skip
        refine lv_tableIn (tgt := 381) (off := 230) hx hb dL_act_151 (by decide +kernel) (by decide +kernel) rfl rfl ?_
        have hs : swk ((lowf v (nI 32))) = 9 := by rw [← hkk]; decide +kernel
        refine lv_aload_n hx hb dL_act_381 rfl (lv_at hl 6 rfl) ?_
        refine lv_iload hx hb dL_act_382 (lv_at hl 3 rfl) ?_
        refine lv_iload_n hx hb dL_act_384 rfl (lv_at hl 4 rfl) ?_
        refine lv_iload_n hx hb dL_act_385 rfl (lv_at hl 5 rfl) ?_
        refine lv_if_eq (tgt := 394) hx hb dL_act_386 (by decide) (fun c_18 => ?_) (fun c_18 => absurd (by decide +kernel) c_18)
        clear c_18
        refine lv_iconst (v := nI 1) hx hb dL_act_394 (by decide +kernel) ?_
        refine lv_iload_n hx hb dL_act_395 rfl (lv_at hl 7 rfl) ?_
        refine lv_bipush (v := nI 11) hx hb dL_act_396 (by decide +kernel) ?_
        refine lv_ishr hx hb dL_act_398 ?_
        refine lv_iconst (v := nI 2) hx hb dL_act_399 (by decide +kernel) ?_
        refine x_callS C hS (c_low l (E := E) (base := base) (v := (v >>> (nI 11 &&& 31))) (n := nI 2) (by decide +kernel)) hH kL_low qw_113 qw_112 rfl [.int (nI 1), .int (lowf (v >>> (nI 5 &&& 31)) (nI 5)), .int (lowf (v >>> (nI 8 &&& 31)) (nI 3)), .ref (al (0, 0, 0))] rfl hl.1 (Nat.le_of_ble_eq_true rfl) ⟨(Nat.le_of_ble_eq_true rfl), (Nat.le_of_ble_eq_true rfl)⟩ dL_act_400 ⟨(Nat.le_of_ble_eq_true rfl), (Nat.le_of_ble_eq_true rfl)⟩ (fun r H locs hp hS => ?_)
        obtain ⟨rfl, hH⟩ := hp
        refine lv_iadd hx hb dL_act_403 ?_
        refine lv_iload hx hb dL_act_404 (lv_at hl 0 rfl) ?_
        refine lv_iconst (v := nI 4) hx hb dL_act_406 (by decide +kernel) ?_
        refine lv_idiv hx hb dL_act_407 (by decide +kernel) ?_
        refine lv_iload_n hx hb dL_act_408 rfl (lv_at hl 5 rfl) ?_
        refine lv_if_eq (tgt := 417) hx hb dL_act_409 (by decide) (fun c_19 => ?_) (fun c_19 => absurd (by decide +kernel) c_19)
        clear c_19
        refine lv_iload hx hb dL_act_417 (lv_at hl 0 rfl) ?_
        refine lv_iconst (v := nI 4) hx hb dL_act_419 (by decide +kernel) ?_
        refine lv_idiv hx hb dL_act_420 (by decide +kernel) ?_
        refine lv_iload_n hx hb dL_act_421 rfl (lv_at hl 7 rfl) ?_
        refine lv_bipush (v := nI 9) hx hb dL_act_422 (by decide +kernel) ?_
        refine lv_ishr hx hb dL_act_424 ?_
        refine lv_sipush (v := nI 200) hx hb dL_act_425 (by decide +kernel) ?_
        refine x_callS C hS (c_low l (E := E) (base := base) (v := (v >>> (nI 9 &&& 31))) (n := nI 200) (by decide +kernel)) hH kL_low qw_113 qw_112 rfl [.int ((lowf (v >>> (nI 4 &&& 31)) (nI 40)) / nI 4), .int ((lowf (v >>> (nI 4 &&& 31)) (nI 40)) / nI 4), .int (nI 1 + (lowf (v >>> (nI 11 &&& 31)) (nI 2))), .int (lowf (v >>> (nI 5 &&& 31)) (nI 5)), .int (lowf (v >>> (nI 8 &&& 31)) (nI 3)), .ref (al (0, 0, 0))] rfl hl.1 (Nat.le_of_ble_eq_true rfl) ⟨(Nat.le_of_ble_eq_true rfl), (Nat.le_of_ble_eq_true rfl)⟩ dL_act_428 ⟨(Nat.le_of_ble_eq_true rfl), (Nat.le_of_ble_eq_true rfl)⟩ (fun r H locs hp hS => ?_)
        obtain ⟨rfl, hH⟩ := hp
        refine lv_iadd hx hb dL_act_431 ?_
        refine x_callH (k := 6) C hS (l_right l hfl (E := E) (base := base) hI (x := (lowf (v >>> (nI 8 &&& 31)) (nI 3))) (y := (lowf (v >>> (nI 5 &&& 31)) (nI 5))) (k := (nI 1 + (lowf (v >>> (nI 11 &&& 31)) (nI 2)))) (a := ((lowf (v >>> (nI 4 &&& 31)) (nI 40)) / nI 4)) (b := (((lowf (v >>> (nI 4 &&& 31)) (nI 40)) / nI 4) + (lowf (v >>> (nI 9 &&& 31)) (nI 200)))) al w hR) hH qw_425 qw_0 ⟨by decide +kernel, by decide +kernel, by decide +kernel⟩ qw_424 qw_423 rfl [] rfl hl.1 (Nat.le_of_ble_eq_true rfl) ⟨(Nat.le_of_ble_eq_true rfl), (Nat.le_of_ble_eq_true rfl)⟩ dL_act_432 ⟨(Nat.le_of_ble_eq_true rfl), (Nat.le_of_ble_eq_true rfl)⟩ (fun r H locs hp hS => ?_)
        obtain ⟨rfl, hP⟩ := hp
        have hf : f_act S v = f_right S (lowf (v >>> (nI 8 &&& 31)) (nI 3)) (lowf (v >>> (nI 5 &&& 31)) (nI 5)) (nI 1 + (lowf (v >>> (nI 11 &&& 31)) (nI 2))) ((lowf (v >>> (nI 4 &&& 31)) (nI 40)) / nI 4) (((lowf (v >>> (nI 4 &&& 31)) (nI 40)) / nI 4) + (lowf (v >>> (nI 9 &&& 31)) (nI 200))) := (cif_f hodd).trans (by rw [hs]; rfl)
        rw [← hQ]
        refine x_reti C rfl hS (Nat.le_of_ble_eq_true rfl) (Nat.le_of_ble_eq_true rfl) dL_act_435 ?_
        rw [hpost]
        exact ⟨by rw [hf], by rw [hf]; exact hP⟩
      · skip
        refine lv_tableIn (tgt := 381) (off := 230) hx hb dL_act_151 (by decide +kernel) (by decide +kernel) rfl rfl ?_
        have hs : swk ((lowf v (nI 32))) = 10 := by rw [← hkk]; decide +kernel
        refine lv_aload_n hx hb dL_act_381 rfl (lv_at hl 6 rfl) ?_
        refine lv_iload hx hb dL_act_382 (lv_at hl 3 rfl) ?_
        refine lv_iload_n hx hb dL_act_384 rfl (lv_at hl 4 rfl) ?_
        refine lv_iload_n hx hb dL_act_385 rfl (lv_at hl 5 rfl) ?_
        refine lv_if_eq (tgt := 394) hx hb dL_act_386 (by decide) (fun c_20 => ?_) (fun c_20 => absurd (by decide +kernel) c_20)
        clear c_20
        refine lv_iconst (v := nI 1) hx hb dL_act_394 (by decide +kernel) ?_
        refine lv_iload_n hx hb dL_act_395 rfl (lv_at hl 7 rfl) ?_
        refine lv_bipush (v := nI 11) hx hb dL_act_396 (by decide +kernel) ?_
        refine lv_ishr hx hb dL_act_398 ?_
        refine lv_iconst (v := nI 2) hx hb dL_act_399 (by decide +kernel) ?_
        refine x_callS C hS (c_low l (E := E) (base := base) (v := (v >>> (nI 11 &&& 31))) (n := nI 2) (by decide +kernel)) hH kL_low qw_113 qw_112 rfl [.int (nI 1), .int (lowf (v >>> (nI 5 &&& 31)) (nI 5)), .int (lowf (v >>> (nI 8 &&& 31)) (nI 3)), .ref (al (0, 0, 0))] rfl hl.1 (Nat.le_of_ble_eq_true rfl) ⟨(Nat.le_of_ble_eq_true rfl), (Nat.le_of_ble_eq_true rfl)⟩ dL_act_400 ⟨(Nat.le_of_ble_eq_true rfl), (Nat.le_of_ble_eq_true rfl)⟩ (fun r H locs hp hS => ?_)
        obtain ⟨rfl, hH⟩ := hp
        refine lv_iadd hx hb dL_act_403 ?_
        refine lv_iload hx hb dL_act_404 (lv_at hl 0 rfl) ?_
        refine lv_iconst (v := nI 4) hx hb dL_act_406 (by decide +kernel) ?_
        refine lv_idiv hx hb dL_act_407 (by decide +kernel) ?_
        refine lv_iload_n hx hb dL_act_408 rfl (lv_at hl 5 rfl) ?_
        refine lv_if_eq (tgt := 417) hx hb dL_act_409 (by decide) (fun c_21 => ?_) (fun c_21 => absurd (by decide +kernel) c_21)
        clear c_21
        refine lv_iload hx hb dL_act_417 (lv_at hl 0 rfl) ?_
        refine lv_iconst (v := nI 4) hx hb dL_act_419 (by decide +kernel) ?_
        refine lv_idiv hx hb dL_act_420 (by decide +kernel) ?_
        refine lv_iload_n hx hb dL_act_421 rfl (lv_at hl 7 rfl) ?_
        refine lv_bipush (v := nI 9) hx hb dL_act_422 (by decide +kernel) ?_
        refine lv_ishr hx hb dL_act_424 ?_
        refine lv_sipush (v := nI 200) hx hb dL_act_425 (by decide +kernel) ?_
        refine x_callS C hS (c_low l (E := E) (base := base) (v := (v >>> (nI 9 &&& 31))) (n := nI 200) (by decide +kernel)) hH kL_low qw_113 qw_112 rfl [.int ((lowf (v >>> (nI 4 &&& 31)) (nI 40)) / nI 4), .int ((lowf (v >>> (nI 4 &&& 31)) (nI 40)) / nI 4), .int (nI 1 + (lowf (v >>> (nI 11 &&& 31)) (nI 2))), .int (lowf (v >>> (nI 5 &&& 31)) (nI 5)), .int (lowf (v >>> (nI 8 &&& 31)) (nI 3)), .ref (al (0, 0, 0))] rfl hl.1 (Nat.le_of_ble_eq_true rfl) ⟨(Nat.le_of_ble_eq_true rfl), (Nat.le_of_ble_eq_true rfl)⟩ dL_act_428 ⟨(Nat.le_of_ble_eq_true rfl), (Nat.le_of_ble_eq_true rfl)⟩ (fun r H locs hp hS => ?_)
        obtain ⟨rfl, hH⟩ := hp
        refine lv_iadd hx hb dL_act_431 ?_
        refine x_callH (k := 6) C hS (l_right l hfl (E := E) (base := base) hI (x := (lowf (v >>> (nI 8 &&& 31)) (nI 3))) (y := (lowf (v >>> (nI 5 &&& 31)) (nI 5))) (k := (nI 1 + (lowf (v >>> (nI 11 &&& 31)) (nI 2)))) (a := ((lowf (v >>> (nI 4 &&& 31)) (nI 40)) / nI 4)) (b := (((lowf (v >>> (nI 4 &&& 31)) (nI 40)) / nI 4) + (lowf (v >>> (nI 9 &&& 31)) (nI 200)))) al w hR) hH qw_425 qw_0 ⟨by decide +kernel, by decide +kernel, by decide +kernel⟩ qw_424 qw_423 rfl [] rfl hl.1 (Nat.le_of_ble_eq_true rfl) ⟨(Nat.le_of_ble_eq_true rfl), (Nat.le_of_ble_eq_true rfl)⟩ dL_act_432 ⟨(Nat.le_of_ble_eq_true rfl), (Nat.le_of_ble_eq_true rfl)⟩ (fun r H locs hp hS => ?_)
        obtain ⟨rfl, hP⟩ := hp
        have hf : f_act S v = f_right S (lowf (v >>> (nI 8 &&& 31)) (nI 3)) (lowf (v >>> (nI 5 &&& 31)) (nI 5)) (nI 1 + (lowf (v >>> (nI 11 &&& 31)) (nI 2))) ((lowf (v >>> (nI 4 &&& 31)) (nI 40)) / nI 4) (((lowf (v >>> (nI 4 &&& 31)) (nI 40)) / nI 4) + (lowf (v >>> (nI 9 &&& 31)) (nI 200))) := (cif_f hodd).trans (by rw [hs]; rfl)
        rw [← hQ]
        refine x_reti C rfl hS (Nat.le_of_ble_eq_true rfl) (Nat.le_of_ble_eq_true rfl) dL_act_435 ?_
        rw [hpost]
        exact ⟨by rw [hf], by rw [hf]; exact hP⟩
      · skip
        refine lv_tableIn (tgt := 381) (off := 230) hx hb dL_act_151 (by decide +kernel) (by decide +kernel) rfl rfl ?_
        have hs : swk ((lowf v (nI 32))) = 11 := by rw [← hkk]; decide +kernel
        refine lv_aload_n hx hb dL_act_381 rfl (lv_at hl 6 rfl) ?_
        refine lv_iload hx hb dL_act_382 (lv_at hl 3 rfl) ?_
        refine lv_iload_n hx hb dL_act_384 rfl (lv_at hl 4 rfl) ?_
        refine lv_iload_n hx hb dL_act_385 rfl (lv_at hl 5 rfl) ?_
        refine lv_if_eq (tgt := 394) hx hb dL_act_386 (by decide) (fun c_22 => ?_) (fun c_22 => absurd (by decide +kernel) c_22)
        clear c_22
        refine lv_iconst (v := nI 1) hx hb dL_act_394 (by decide +kernel) ?_
        refine lv_iload_n hx hb dL_act_395 rfl (lv_at hl 7 rfl) ?_
        refine lv_bipush (v := nI 11) hx hb dL_act_396 (by decide +kernel) ?_
        refine lv_ishr hx hb dL_act_398 ?_
        refine lv_iconst (v := nI 2) hx hb dL_act_399 (by decide +kernel) ?_
        refine x_callS C hS (c_low l (E := E) (base := base) (v := (v >>> (nI 11 &&& 31))) (n := nI 2) (by decide +kernel)) hH kL_low qw_113 qw_112 rfl [.int (nI 1), .int (lowf (v >>> (nI 5 &&& 31)) (nI 5)), .int (lowf (v >>> (nI 8 &&& 31)) (nI 3)), .ref (al (0, 0, 0))] rfl hl.1 (Nat.le_of_ble_eq_true rfl) ⟨(Nat.le_of_ble_eq_true rfl), (Nat.le_of_ble_eq_true rfl)⟩ dL_act_400 ⟨(Nat.le_of_ble_eq_true rfl), (Nat.le_of_ble_eq_true rfl)⟩ (fun r H locs hp hS => ?_)
        obtain ⟨rfl, hH⟩ := hp
        refine lv_iadd hx hb dL_act_403 ?_
        refine lv_iload hx hb dL_act_404 (lv_at hl 0 rfl) ?_
        refine lv_iconst (v := nI 4) hx hb dL_act_406 (by decide +kernel) ?_
        refine lv_idiv hx hb dL_act_407 (by decide +kernel) ?_
        refine lv_iload_n hx hb dL_act_408 rfl (lv_at hl 5 rfl) ?_
        refine lv_if_eq (tgt := 417) hx hb dL_act_409 (by decide) (fun c_23 => ?_) (fun c_23 => absurd (by decide +kernel) c_23)
        clear c_23
        refine lv_iload hx hb dL_act_417 (lv_at hl 0 rfl) ?_
        refine lv_iconst (v := nI 4) hx hb dL_act_419 (by decide +kernel) ?_
        refine lv_idiv hx hb dL_act_420 (by decide +kernel) ?_
        refine lv_iload_n hx hb dL_act_421 rfl (lv_at hl 7 rfl) ?_
        refine lv_bipush (v := nI 9) hx hb dL_act_422 (by decide +kernel) ?_
        refine lv_ishr hx hb dL_act_424 ?_
        refine lv_sipush (v := nI 200) hx hb dL_act_425 (by decide +kernel) ?_
        refine x_callS C hS (c_low l (E := E) (base := base) (v := (v >>> (nI 9 &&& 31))) (n := nI 200) (by decide +kernel)) hH kL_low qw_113 qw_112 rfl [.int ((lowf (v >>> (nI 4 &&& 31)) (nI 40)) / nI 4), .int ((lowf (v >>> (nI 4 &&& 31)) (nI 40)) / nI 4), .int (nI 1 + (lowf (v >>> (nI 11 &&& 31)) (nI 2))), .int (lowf (v >>> (nI 5 &&& 31)) (nI 5)), .int (lowf (v >>> (nI 8 &&& 31)) (nI 3)), .ref (al (0, 0, 0))] rfl hl.1 (Nat.le_of_ble_eq_true rfl) ⟨(Nat.le_of_ble_eq_true rfl), (Nat.le_of_ble_eq_true rfl)⟩ dL_act_428 ⟨(Nat.le_of_ble_eq_true rfl), (Nat.le_of_ble_eq_true rfl)⟩ (fun r H locs hp hS => ?_)
        obtain ⟨rfl, hH⟩ := hp
        refine lv_iadd hx hb dL_act_431 ?_
        refine x_callH (k := 6) C hS (l_right l hfl (E := E) (base := base) hI (x := (lowf (v >>> (nI 8 &&& 31)) (nI 3))) (y := (lowf (v >>> (nI 5 &&& 31)) (nI 5))) (k := (nI 1 + (lowf (v >>> (nI 11 &&& 31)) (nI 2)))) (a := ((lowf (v >>> (nI 4 &&& 31)) (nI 40)) / nI 4)) (b := (((lowf (v >>> (nI 4 &&& 31)) (nI 40)) / nI 4) + (lowf (v >>> (nI 9 &&& 31)) (nI 200)))) al w hR) hH qw_425 qw_0 ⟨by decide +kernel, by decide +kernel, by decide +kernel⟩ qw_424 qw_423 rfl [] rfl hl.1 (Nat.le_of_ble_eq_true rfl) ⟨(Nat.le_of_ble_eq_true rfl), (Nat.le_of_ble_eq_true rfl)⟩ dL_act_432 ⟨(Nat.le_of_ble_eq_true rfl), (Nat.le_of_ble_eq_true rfl)⟩ (fun r H locs hp hS => ?_)
        obtain ⟨rfl, hP⟩ := hp
        have hf : f_act S v = f_right S (lowf (v >>> (nI 8 &&& 31)) (nI 3)) (lowf (v >>> (nI 5 &&& 31)) (nI 5)) (nI 1 + (lowf (v >>> (nI 11 &&& 31)) (nI 2))) ((lowf (v >>> (nI 4 &&& 31)) (nI 40)) / nI 4) (((lowf (v >>> (nI 4 &&& 31)) (nI 40)) / nI 4) + (lowf (v >>> (nI 9 &&& 31)) (nI 200))) := (cif_f hodd).trans (by rw [hs]; rfl)
        rw [← hQ]
        refine x_reti C rfl hS (Nat.le_of_ble_eq_true rfl) (Nat.le_of_ble_eq_true rfl) dL_act_435 ?_
        rw [hpost]
        exact ⟨by rw [hf], by rw [hf]; exact hP⟩
      · skip
        refine lv_tableIn (tgt := 436) (off := 285) hx hb dL_act_151 (by decide +kernel) (by decide +kernel) rfl rfl ?_
        have hs : swk ((lowf v (nI 32))) = 12 := by rw [← hkk]; decide +kernel
        refine lv_aload_n hx hb dL_act_436 rfl (lv_at hl 6 rfl) ?_
        refine lv_iload hx hb dL_act_437 (lv_at hl 3 rfl) ?_
        refine lv_iload_n hx hb dL_act_439 rfl (lv_at hl 4 rfl) ?_
        refine x_callH (k := 3) C hS (l_takeBack l hfl (E := E) (base := base) hI (x := (lowf (v >>> (nI 8 &&& 31)) (nI 3))) (z := (lowf (v >>> (nI 5 &&& 31)) (nI 5))) al w hR) hH qw_452 qw_0 ⟨by decide +kernel, by decide +kernel, by decide +kernel⟩ qw_451 qw_450 rfl [] rfl hl.1 (Nat.le_of_ble_eq_true rfl) ⟨(Nat.le_of_ble_eq_true rfl), (Nat.le_of_ble_eq_true rfl)⟩ dL_act_440 ⟨(Nat.le_of_ble_eq_true rfl), (Nat.le_of_ble_eq_true rfl)⟩ (fun r H locs hp hS => ?_)
        obtain ⟨rfl, hP⟩ := hp
        have hf : f_act S v = f_takeBack S (lowf (v >>> (nI 8 &&& 31)) (nI 3)) (lowf (v >>> (nI 5 &&& 31)) (nI 5)) := (cif_f hodd).trans (by rw [hs]; rfl)
        rw [← hQ]
        refine x_reti C rfl hS (Nat.le_of_ble_eq_true rfl) (Nat.le_of_ble_eq_true rfl) dL_act_443 ?_
        rw [hpost]
        exact ⟨by rw [hf], by rw [hf]; exact hP⟩
      · skip
        refine lv_tableIn (tgt := 444) (off := 293) hx hb dL_act_151 (by decide +kernel) (by decide +kernel) rfl rfl ?_
        have hs : swk ((lowf v (nI 32))) = 13 := by rw [← hkk]; decide +kernel
        refine lv_aload_n hx hb dL_act_444 rfl (lv_at hl 6 rfl) ?_
        refine lv_iload_n hx hb dL_act_445 rfl (lv_at hl 4 rfl) ?_
        refine lv_iload hx hb dL_act_446 (lv_at hl 0 rfl) ?_
        refine x_callH (k := 3) C hS (l_seal l hfl (E := E) (base := base) hI (x := (lowf (v >>> (nI 5 &&& 31)) (nI 5))) (y := (lowf (v >>> (nI 4 &&& 31)) (nI 40))) al w hR) hH qw_463 qw_0 ⟨by decide +kernel, by decide +kernel, by decide +kernel⟩ qw_462 qw_461 rfl [] rfl hl.1 (Nat.le_of_ble_eq_true rfl) ⟨(Nat.le_of_ble_eq_true rfl), (Nat.le_of_ble_eq_true rfl)⟩ dL_act_448 ⟨(Nat.le_of_ble_eq_true rfl), (Nat.le_of_ble_eq_true rfl)⟩ (fun r H locs hp hS => ?_)
        obtain ⟨rfl, hP⟩ := hp
        have hf : f_act S v = f_seal S (lowf (v >>> (nI 5 &&& 31)) (nI 5)) (lowf (v >>> (nI 4 &&& 31)) (nI 40)) := (cif_f hodd).trans (by rw [hs]; rfl)
        rw [← hQ]
        refine x_reti C rfl hS (Nat.le_of_ble_eq_true rfl) (Nat.le_of_ble_eq_true rfl) dL_act_451 ?_
        rw [hpost]
        exact ⟨by rw [hf], by rw [hf]; exact hP⟩
      · skip
        refine lv_tableIn (tgt := 452) (off := 301) hx hb dL_act_151 (by decide +kernel) (by decide +kernel) rfl rfl ?_
        have hs : swk ((lowf v (nI 32))) = 14 := by rw [← hkk]; decide +kernel
        refine lv_aload_n hx hb dL_act_452 rfl (lv_at hl 6 rfl) ?_
        refine lv_iload_n hx hb dL_act_453 rfl (lv_at hl 5 rfl) ?_
        refine lv_if_eq (tgt := 462) hx hb dL_act_454 (by decide) (fun c_24 => ?_) (fun c_24 => absurd (by decide +kernel) c_24)
        clear c_24
        refine lv_iconst (v := nI 1) hx hb dL_act_462 (by decide +kernel) ?_
        refine lv_iload_n hx hb dL_act_463 rfl (lv_at hl 7 rfl) ?_
        refine lv_bipush (v := nI 9) hx hb dL_act_464 (by decide +kernel) ?_
        refine lv_ishr hx hb dL_act_466 ?_
        refine lv_iconst (v := nI 5) hx hb dL_act_467 (by decide +kernel) ?_
        refine x_callS C hS (c_low l (E := E) (base := base) (v := (v >>> (nI 9 &&& 31))) (n := nI 5) (by decide +kernel)) hH kL_low qw_113 qw_112 rfl [.int (nI 1), .ref (al (0, 0, 0))] rfl hl.1 (Nat.le_of_ble_eq_true rfl) ⟨(Nat.le_of_ble_eq_true rfl), (Nat.le_of_ble_eq_true rfl)⟩ dL_act_468 ⟨(Nat.le_of_ble_eq_true rfl), (Nat.le_of_ble_eq_true rfl)⟩ (fun r H locs hp hS => ?_)
        obtain ⟨rfl, hH⟩ := hp
        refine lv_iadd hx hb dL_act_471 ?_
        refine x_callH (k := 2) C hS (l_pass l hfl (E := E) (base := base) hI (x := (nI 1 + (lowf (v >>> (nI 9 &&& 31)) (nI 5)))) al w hR) hH qw_470 qw_0 ⟨by decide +kernel, by decide +kernel, by decide +kernel⟩ qw_469 qw_468 rfl [] rfl hl.1 (Nat.le_of_ble_eq_true rfl) ⟨(Nat.le_of_ble_eq_true rfl), (Nat.le_of_ble_eq_true rfl)⟩ dL_act_472 ⟨(Nat.le_of_ble_eq_true rfl), (Nat.le_of_ble_eq_true rfl)⟩ (fun r H locs hp hS => ?_)
        obtain ⟨rfl, hP⟩ := hp
        have hf : f_act S v = f_pass S (nI 1 + (lowf (v >>> (nI 9 &&& 31)) (nI 5))) := (cif_f hodd).trans (by rw [hs]; rfl)
        rw [← hQ]
        refine x_reti C rfl hS (Nat.le_of_ble_eq_true rfl) (Nat.le_of_ble_eq_true rfl) dL_act_475 ?_
        rw [hpost]
        exact ⟨by rw [hf], by rw [hf]; exact hP⟩
      · skip
        refine lv_tableIn (tgt := 476) (off := 325) hx hb dL_act_151 (by decide +kernel) (by decide +kernel) rfl rfl ?_
        have hs : swk ((lowf v (nI 32))) = 15 := by rw [← hkk]; decide +kernel
        refine lv_aload_n hx hb dL_act_476 rfl (lv_at hl 6 rfl) ?_
        refine lv_iload hx hb dL_act_477 (lv_at hl 3 rfl) ?_
        refine lv_iload hx hb dL_act_479 (lv_at hl 1 rfl) ?_
        refine lv_iload hx hb dL_act_481 (lv_at hl 2 rfl) ?_
        refine x_callH (k := 4) C hS (l_ask l hfl (E := E) (base := base) hI (x := (lowf (v >>> (nI 8 &&& 31)) (nI 3))) (z := (nI 1 + (lowf (v >>> (nI 9 &&& 31)) (nI 31)))) (bit := ((lowf (v >>> (nI 11 &&& 31)) (nI 4)) - nI 1)) al w hR) hH qw_478 qw_0 ⟨by decide +kernel, by decide +kernel, by decide +kernel⟩ qw_477 qw_476 rfl [] rfl hl.1 (Nat.le_of_ble_eq_true rfl) ⟨(Nat.le_of_ble_eq_true rfl), (Nat.le_of_ble_eq_true rfl)⟩ dL_act_483 ⟨(Nat.le_of_ble_eq_true rfl), (Nat.le_of_ble_eq_true rfl)⟩ (fun r H locs hp hS => ?_)
        obtain ⟨rfl, hP⟩ := hp
        have hf : f_act S v = f_ask S (lowf (v >>> (nI 8 &&& 31)) (nI 3)) (nI 1 + (lowf (v >>> (nI 9 &&& 31)) (nI 31))) ((lowf (v >>> (nI 11 &&& 31)) (nI 4)) - nI 1) := (cif_f hodd).trans (by rw [hs]; rfl)
        rw [← hQ]
        refine x_reti C rfl hS (Nat.le_of_ble_eq_true rfl) (Nat.le_of_ble_eq_true rfl) dL_act_486 ?_
        rw [hpost]
        exact ⟨by rw [hf], by rw [hf]; exact hP⟩
      · skip
        refine lv_tableIn (tgt := 476) (off := 325) hx hb dL_act_151 (by decide +kernel) (by decide +kernel) rfl rfl ?_
        have hs : swk ((lowf v (nI 32))) = 16 := by rw [← hkk]; decide +kernel
        refine lv_aload_n hx hb dL_act_476 rfl (lv_at hl 6 rfl) ?_
        refine lv_iload hx hb dL_act_477 (lv_at hl 3 rfl) ?_
        refine lv_iload hx hb dL_act_479 (lv_at hl 1 rfl) ?_
        refine lv_iload hx hb dL_act_481 (lv_at hl 2 rfl) ?_
        refine x_callH (k := 4) C hS (l_ask l hfl (E := E) (base := base) hI (x := (lowf (v >>> (nI 8 &&& 31)) (nI 3))) (z := (nI 1 + (lowf (v >>> (nI 9 &&& 31)) (nI 31)))) (bit := ((lowf (v >>> (nI 11 &&& 31)) (nI 4)) - nI 1)) al w hR) hH qw_478 qw_0 ⟨by decide +kernel, by decide +kernel, by decide +kernel⟩ qw_477 qw_476 rfl [] rfl hl.1 (Nat.le_of_ble_eq_true rfl) ⟨(Nat.le_of_ble_eq_true rfl), (Nat.le_of_ble_eq_true rfl)⟩ dL_act_483 ⟨(Nat.le_of_ble_eq_true rfl), (Nat.le_of_ble_eq_true rfl)⟩ (fun r H locs hp hS => ?_)
        obtain ⟨rfl, hP⟩ := hp
        have hf : f_act S v = f_ask S (lowf (v >>> (nI 8 &&& 31)) (nI 3)) (nI 1 + (lowf (v >>> (nI 9 &&& 31)) (nI 31))) ((lowf (v >>> (nI 11 &&& 31)) (nI 4)) - nI 1) := (cif_f hodd).trans (by rw [hs]; rfl)
        rw [← hQ]
        refine x_reti C rfl hS (Nat.le_of_ble_eq_true rfl) (Nat.le_of_ble_eq_true rfl) dL_act_486 ?_
        rw [hpost]
        exact ⟨by rw [hf], by rw [hf]; exact hP⟩
      · skip
        refine lv_tableIn (tgt := 476) (off := 325) hx hb dL_act_151 (by decide +kernel) (by decide +kernel) rfl rfl ?_
        have hs : swk ((lowf v (nI 32))) = 17 := by rw [← hkk]; decide +kernel
        refine lv_aload_n hx hb dL_act_476 rfl (lv_at hl 6 rfl) ?_
        refine lv_iload hx hb dL_act_477 (lv_at hl 3 rfl) ?_
        refine lv_iload hx hb dL_act_479 (lv_at hl 1 rfl) ?_
        refine lv_iload hx hb dL_act_481 (lv_at hl 2 rfl) ?_
        refine x_callH (k := 4) C hS (l_ask l hfl (E := E) (base := base) hI (x := (lowf (v >>> (nI 8 &&& 31)) (nI 3))) (z := (nI 1 + (lowf (v >>> (nI 9 &&& 31)) (nI 31)))) (bit := ((lowf (v >>> (nI 11 &&& 31)) (nI 4)) - nI 1)) al w hR) hH qw_478 qw_0 ⟨by decide +kernel, by decide +kernel, by decide +kernel⟩ qw_477 qw_476 rfl [] rfl hl.1 (Nat.le_of_ble_eq_true rfl) ⟨(Nat.le_of_ble_eq_true rfl), (Nat.le_of_ble_eq_true rfl)⟩ dL_act_483 ⟨(Nat.le_of_ble_eq_true rfl), (Nat.le_of_ble_eq_true rfl)⟩ (fun r H locs hp hS => ?_)
        obtain ⟨rfl, hP⟩ := hp
        have hf : f_act S v = f_ask S (lowf (v >>> (nI 8 &&& 31)) (nI 3)) (nI 1 + (lowf (v >>> (nI 9 &&& 31)) (nI 31))) ((lowf (v >>> (nI 11 &&& 31)) (nI 4)) - nI 1) := (cif_f hodd).trans (by rw [hs]; rfl)
        rw [← hQ]
        refine x_reti C rfl hS (Nat.le_of_ble_eq_true rfl) (Nat.le_of_ble_eq_true rfl) dL_act_486 ?_
        rw [hpost]
        exact ⟨by rw [hf], by rw [hf]; exact hP⟩
      · skip
        refine lv_tableIn (tgt := 476) (off := 325) hx hb dL_act_151 (by decide +kernel) (by decide +kernel) rfl rfl ?_
        have hs : swk ((lowf v (nI 32))) = 18 := by rw [← hkk]; decide +kernel
        refine lv_aload_n hx hb dL_act_476 rfl (lv_at hl 6 rfl) ?_
        refine lv_iload hx hb dL_act_477 (lv_at hl 3 rfl) ?_
        refine lv_iload hx hb dL_act_479 (lv_at hl 1 rfl) ?_
        refine lv_iload hx hb dL_act_481 (lv_at hl 2 rfl) ?_
        refine x_callH (k := 4) C hS (l_ask l hfl (E := E) (base := base) hI (x := (lowf (v >>> (nI 8 &&& 31)) (nI 3))) (z := (nI 1 + (lowf (v >>> (nI 9 &&& 31)) (nI 31)))) (bit := ((lowf (v >>> (nI 11 &&& 31)) (nI 4)) - nI 1)) al w hR) hH qw_478 qw_0 ⟨by decide +kernel, by decide +kernel, by decide +kernel⟩ qw_477 qw_476 rfl [] rfl hl.1 (Nat.le_of_ble_eq_true rfl) ⟨(Nat.le_of_ble_eq_true rfl), (Nat.le_of_ble_eq_true rfl)⟩ dL_act_483 ⟨(Nat.le_of_ble_eq_true rfl), (Nat.le_of_ble_eq_true rfl)⟩ (fun r H locs hp hS => ?_)
        obtain ⟨rfl, hP⟩ := hp
        have hf : f_act S v = f_ask S (lowf (v >>> (nI 8 &&& 31)) (nI 3)) (nI 1 + (lowf (v >>> (nI 9 &&& 31)) (nI 31))) ((lowf (v >>> (nI 11 &&& 31)) (nI 4)) - nI 1) := (cif_f hodd).trans (by rw [hs]; rfl)
        rw [← hQ]
        refine x_reti C rfl hS (Nat.le_of_ble_eq_true rfl) (Nat.le_of_ble_eq_true rfl) dL_act_486 ?_
        rw [hpost]
        exact ⟨by rw [hf], by rw [hf]; exact hP⟩
      · skip
        refine lv_tableIn (tgt := 476) (off := 325) hx hb dL_act_151 (by decide +kernel) (by decide +kernel) rfl rfl ?_
        have hs : swk ((lowf v (nI 32))) = 19 := by rw [← hkk]; decide +kernel
        refine lv_aload_n hx hb dL_act_476 rfl (lv_at hl 6 rfl) ?_
        refine lv_iload hx hb dL_act_477 (lv_at hl 3 rfl) ?_
        refine lv_iload hx hb dL_act_479 (lv_at hl 1 rfl) ?_
        refine lv_iload hx hb dL_act_481 (lv_at hl 2 rfl) ?_
        refine x_callH (k := 4) C hS (l_ask l hfl (E := E) (base := base) hI (x := (lowf (v >>> (nI 8 &&& 31)) (nI 3))) (z := (nI 1 + (lowf (v >>> (nI 9 &&& 31)) (nI 31)))) (bit := ((lowf (v >>> (nI 11 &&& 31)) (nI 4)) - nI 1)) al w hR) hH qw_478 qw_0 ⟨by decide +kernel, by decide +kernel, by decide +kernel⟩ qw_477 qw_476 rfl [] rfl hl.1 (Nat.le_of_ble_eq_true rfl) ⟨(Nat.le_of_ble_eq_true rfl), (Nat.le_of_ble_eq_true rfl)⟩ dL_act_483 ⟨(Nat.le_of_ble_eq_true rfl), (Nat.le_of_ble_eq_true rfl)⟩ (fun r H locs hp hS => ?_)
        obtain ⟨rfl, hP⟩ := hp
        have hf : f_act S v = f_ask S (lowf (v >>> (nI 8 &&& 31)) (nI 3)) (nI 1 + (lowf (v >>> (nI 9 &&& 31)) (nI 31))) ((lowf (v >>> (nI 11 &&& 31)) (nI 4)) - nI 1) := (cif_f hodd).trans (by rw [hs]; rfl)
        rw [← hQ]
        refine x_reti C rfl hS (Nat.le_of_ble_eq_true rfl) (Nat.le_of_ble_eq_true rfl) dL_act_486 ?_
        rw [hpost]
        exact ⟨by rw [hf], by rw [hf]; exact hP⟩
      · skip
        refine lv_tableIn (tgt := 476) (off := 325) hx hb dL_act_151 (by decide +kernel) (by decide +kernel) rfl rfl ?_
        have hs : swk ((lowf v (nI 32))) = 20 := by rw [← hkk]; decide +kernel
        refine lv_aload_n hx hb dL_act_476 rfl (lv_at hl 6 rfl) ?_
        refine lv_iload hx hb dL_act_477 (lv_at hl 3 rfl) ?_
        refine lv_iload hx hb dL_act_479 (lv_at hl 1 rfl) ?_
        refine lv_iload hx hb dL_act_481 (lv_at hl 2 rfl) ?_
        refine x_callH (k := 4) C hS (l_ask l hfl (E := E) (base := base) hI (x := (lowf (v >>> (nI 8 &&& 31)) (nI 3))) (z := (nI 1 + (lowf (v >>> (nI 9 &&& 31)) (nI 31)))) (bit := ((lowf (v >>> (nI 11 &&& 31)) (nI 4)) - nI 1)) al w hR) hH qw_478 qw_0 ⟨by decide +kernel, by decide +kernel, by decide +kernel⟩ qw_477 qw_476 rfl [] rfl hl.1 (Nat.le_of_ble_eq_true rfl) ⟨(Nat.le_of_ble_eq_true rfl), (Nat.le_of_ble_eq_true rfl)⟩ dL_act_483 ⟨(Nat.le_of_ble_eq_true rfl), (Nat.le_of_ble_eq_true rfl)⟩ (fun r H locs hp hS => ?_)
        obtain ⟨rfl, hP⟩ := hp
        have hf : f_act S v = f_ask S (lowf (v >>> (nI 8 &&& 31)) (nI 3)) (nI 1 + (lowf (v >>> (nI 9 &&& 31)) (nI 31))) ((lowf (v >>> (nI 11 &&& 31)) (nI 4)) - nI 1) := (cif_f hodd).trans (by rw [hs]; rfl)
        rw [← hQ]
        refine x_reti C rfl hS (Nat.le_of_ble_eq_true rfl) (Nat.le_of_ble_eq_true rfl) dL_act_486 ?_
        rw [hpost]
        exact ⟨by rw [hf], by rw [hf]; exact hP⟩
      · skip
        refine lv_tableIn (tgt := 476) (off := 325) hx hb dL_act_151 (by decide +kernel) (by decide +kernel) rfl rfl ?_
        have hs : swk ((lowf v (nI 32))) = 21 := by rw [← hkk]; decide +kernel
        refine lv_aload_n hx hb dL_act_476 rfl (lv_at hl 6 rfl) ?_
        refine lv_iload hx hb dL_act_477 (lv_at hl 3 rfl) ?_
        refine lv_iload hx hb dL_act_479 (lv_at hl 1 rfl) ?_
        refine lv_iload hx hb dL_act_481 (lv_at hl 2 rfl) ?_
        refine x_callH (k := 4) C hS (l_ask l hfl (E := E) (base := base) hI (x := (lowf (v >>> (nI 8 &&& 31)) (nI 3))) (z := (nI 1 + (lowf (v >>> (nI 9 &&& 31)) (nI 31)))) (bit := ((lowf (v >>> (nI 11 &&& 31)) (nI 4)) - nI 1)) al w hR) hH qw_478 qw_0 ⟨by decide +kernel, by decide +kernel, by decide +kernel⟩ qw_477 qw_476 rfl [] rfl hl.1 (Nat.le_of_ble_eq_true rfl) ⟨(Nat.le_of_ble_eq_true rfl), (Nat.le_of_ble_eq_true rfl)⟩ dL_act_483 ⟨(Nat.le_of_ble_eq_true rfl), (Nat.le_of_ble_eq_true rfl)⟩ (fun r H locs hp hS => ?_)
        obtain ⟨rfl, hP⟩ := hp
        have hf : f_act S v = f_ask S (lowf (v >>> (nI 8 &&& 31)) (nI 3)) (nI 1 + (lowf (v >>> (nI 9 &&& 31)) (nI 31))) ((lowf (v >>> (nI 11 &&& 31)) (nI 4)) - nI 1) := (cif_f hodd).trans (by rw [hs]; rfl)
        rw [← hQ]
        refine x_reti C rfl hS (Nat.le_of_ble_eq_true rfl) (Nat.le_of_ble_eq_true rfl) dL_act_486 ?_
        rw [hpost]
        exact ⟨by rw [hf], by rw [hf]; exact hP⟩
      · skip
        refine lv_tableIn (tgt := 476) (off := 325) hx hb dL_act_151 (by decide +kernel) (by decide +kernel) rfl rfl ?_
        have hs : swk ((lowf v (nI 32))) = 22 := by rw [← hkk]; decide +kernel
        refine lv_aload_n hx hb dL_act_476 rfl (lv_at hl 6 rfl) ?_
        refine lv_iload hx hb dL_act_477 (lv_at hl 3 rfl) ?_
        refine lv_iload hx hb dL_act_479 (lv_at hl 1 rfl) ?_
        refine lv_iload hx hb dL_act_481 (lv_at hl 2 rfl) ?_
        refine x_callH (k := 4) C hS (l_ask l hfl (E := E) (base := base) hI (x := (lowf (v >>> (nI 8 &&& 31)) (nI 3))) (z := (nI 1 + (lowf (v >>> (nI 9 &&& 31)) (nI 31)))) (bit := ((lowf (v >>> (nI 11 &&& 31)) (nI 4)) - nI 1)) al w hR) hH qw_478 qw_0 ⟨by decide +kernel, by decide +kernel, by decide +kernel⟩ qw_477 qw_476 rfl [] rfl hl.1 (Nat.le_of_ble_eq_true rfl) ⟨(Nat.le_of_ble_eq_true rfl), (Nat.le_of_ble_eq_true rfl)⟩ dL_act_483 ⟨(Nat.le_of_ble_eq_true rfl), (Nat.le_of_ble_eq_true rfl)⟩ (fun r H locs hp hS => ?_)
        obtain ⟨rfl, hP⟩ := hp
        have hf : f_act S v = f_ask S (lowf (v >>> (nI 8 &&& 31)) (nI 3)) (nI 1 + (lowf (v >>> (nI 9 &&& 31)) (nI 31))) ((lowf (v >>> (nI 11 &&& 31)) (nI 4)) - nI 1) := (cif_f hodd).trans (by rw [hs]; rfl)
        rw [← hQ]
        refine x_reti C rfl hS (Nat.le_of_ble_eq_true rfl) (Nat.le_of_ble_eq_true rfl) dL_act_486 ?_
        rw [hpost]
        exact ⟨by rw [hf], by rw [hf]; exact hP⟩
      · skip
        refine lv_tableIn (tgt := 487) (off := 336) hx hb dL_act_151 (by decide +kernel) (by decide +kernel) rfl rfl ?_
        have hs : swk ((lowf v (nI 32))) = 23 := by rw [← hkk]; decide +kernel
        refine lv_aload_n hx hb dL_act_487 rfl (lv_at hl 6 rfl) ?_
        refine lv_iload hx hb dL_act_488 (lv_at hl 3 rfl) ?_
        refine lv_iload hx hb dL_act_490 (lv_at hl 1 rfl) ?_
        refine lv_iload hx hb dL_act_492 (lv_at hl 2 rfl) ?_
        refine x_callH (k := 4) C hS (l_cost l hfl (E := E) (base := base) hI (x := (lowf (v >>> (nI 8 &&& 31)) (nI 3))) (z := (nI 1 + (lowf (v >>> (nI 9 &&& 31)) (nI 31)))) (bit := ((lowf (v >>> (nI 11 &&& 31)) (nI 4)) - nI 1)) al w hR) hH qw_576 qw_0 ⟨by decide +kernel, by decide +kernel, by decide +kernel⟩ qw_575 qw_574 rfl [] rfl hl.1 (Nat.le_of_ble_eq_true rfl) ⟨(Nat.le_of_ble_eq_true rfl), (Nat.le_of_ble_eq_true rfl)⟩ dL_act_494 ⟨(Nat.le_of_ble_eq_true rfl), (Nat.le_of_ble_eq_true rfl)⟩ (fun r H locs hp hS => ?_)
        obtain ⟨rfl, hP⟩ := hp
        have hf : f_act S v = f_cost S (lowf (v >>> (nI 8 &&& 31)) (nI 3)) (nI 1 + (lowf (v >>> (nI 9 &&& 31)) (nI 31))) ((lowf (v >>> (nI 11 &&& 31)) (nI 4)) - nI 1) := (cif_f hodd).trans (by rw [hs]; rfl)
        rw [← hQ]
        refine x_reti C rfl hS (Nat.le_of_ble_eq_true rfl) (Nat.le_of_ble_eq_true rfl) dL_act_497 ?_
        rw [hpost]
        exact ⟨by rw [hf], by rw [hf]; exact hP⟩
      · skip
        refine lv_tableIn (tgt := 498) (off := 347) hx hb dL_act_151 (by decide +kernel) (by decide +kernel) rfl rfl ?_
        have hs : swk ((lowf v (nI 32))) = 24 := by rw [← hkk]; decide +kernel
        refine lv_aload_n hx hb dL_act_498 rfl (lv_at hl 6 rfl) ?_
        refine lv_iload_n hx hb dL_act_499 rfl (lv_at hl 5 rfl) ?_
        refine lv_if_eq (tgt := 508) hx hb dL_act_500 (by decide) (fun c_25 => ?_) (fun c_25 => absurd (by decide +kernel) c_25)
        clear c_25
        refine lv_iload_n hx hb dL_act_508 rfl (lv_at hl 7 rfl) ?_
        refine lv_iconst (v := nI 4) hx hb dL_act_509 (by decide +kernel) ?_
        refine lv_ishr hx hb dL_act_510 ?_
        refine lv_bipush (v := nI 12) hx hb dL_act_511 (by decide +kernel) ?_
        refine x_callS C hS (c_low l (E := E) (base := base) (v := (v >>> (nI 4 &&& 31))) (n := nI 12) (by decide +kernel)) hH kL_low qw_113 qw_112 rfl [.ref (al (0, 0, 0))] rfl hl.1 (Nat.le_of_ble_eq_true rfl) ⟨(Nat.le_of_ble_eq_true rfl), (Nat.le_of_ble_eq_true rfl)⟩ dL_act_513 ⟨(Nat.le_of_ble_eq_true rfl), (Nat.le_of_ble_eq_true rfl)⟩ (fun r H locs hp hS => ?_)
        obtain ⟨rfl, hH⟩ := hp
        refine lv_iload_n hx hb dL_act_516 rfl (lv_at hl 5 rfl) ?_
        refine lv_if_eq (tgt := 525) hx hb dL_act_517 (by decide) (fun c_26 => ?_) (fun c_26 => absurd (by decide +kernel) c_26)
        clear c_26
        refine lv_iload_n hx hb dL_act_525 rfl (lv_at hl 7 rfl) ?_
        refine lv_bipush (v := nI 11) hx hb dL_act_526 (by decide +kernel) ?_
        refine lv_ishr hx hb dL_act_528 ?_
        refine lv_bipush (v := nI 6) hx hb dL_act_529 (by decide +kernel) ?_
        refine x_callS C hS (c_low l (E := E) (base := base) (v := (v >>> (nI 11 &&& 31))) (n := nI 6) (by decide +kernel)) hH kL_low qw_113 qw_112 rfl [.int (lowf (v >>> (nI 4 &&& 31)) (nI 12)), .ref (al (0, 0, 0))] rfl hl.1 (Nat.le_of_ble_eq_true rfl) ⟨(Nat.le_of_ble_eq_true rfl), (Nat.le_of_ble_eq_true rfl)⟩ dL_act_531 ⟨(Nat.le_of_ble_eq_true rfl), (Nat.le_of_ble_eq_true rfl)⟩ (fun r H locs hp hS => ?_)
        obtain ⟨rfl, hH⟩ := hp
        refine x_callH (k := 3) C hS (l_answer l hfl (E := E) (base := base) hI (x := (lowf (v >>> (nI 4 &&& 31)) (nI 12))) (z := (lowf (v >>> (nI 11 &&& 31)) (nI 6))) al w hR) hH qw_583 qw_0 ⟨by decide +kernel, by decide +kernel, by decide +kernel⟩ qw_582 qw_581 rfl [] rfl hl.1 (Nat.le_of_ble_eq_true rfl) ⟨(Nat.le_of_ble_eq_true rfl), (Nat.le_of_ble_eq_true rfl)⟩ dL_act_534 ⟨(Nat.le_of_ble_eq_true rfl), (Nat.le_of_ble_eq_true rfl)⟩ (fun r H locs hp hS => ?_)
        obtain ⟨rfl, hP⟩ := hp
        have hf : f_act S v = f_answer S (lowf (v >>> (nI 4 &&& 31)) (nI 12)) (lowf (v >>> (nI 11 &&& 31)) (nI 6)) := (cif_f hodd).trans (by rw [hs]; rfl)
        rw [← hQ]
        refine x_reti C rfl hS (Nat.le_of_ble_eq_true rfl) (Nat.le_of_ble_eq_true rfl) dL_act_537 ?_
        rw [hpost]
        exact ⟨by rw [hf], by rw [hf]; exact hP⟩
      · skip
        refine lv_tableIn (tgt := 538) (off := 387) hx hb dL_act_151 (by decide +kernel) (by decide +kernel) rfl rfl ?_
        have hs : swk ((lowf v (nI 32))) = 25 := by rw [← hkk]; decide +kernel
        refine lv_aload_n hx hb dL_act_538 rfl (lv_at hl 6 rfl) ?_
        refine lv_iload hx hb dL_act_539 (lv_at hl 3 rfl) ?_
        refine x_callH (k := 2) C hS (l_spent l hfl (E := E) (base := base) hI (x := (lowf (v >>> (nI 8 &&& 31)) (nI 3))) al w hR) hH qw_595 qw_0 ⟨by decide +kernel, by decide +kernel, by decide +kernel⟩ qw_594 qw_593 rfl [] rfl hl.1 (Nat.le_of_ble_eq_true rfl) ⟨(Nat.le_of_ble_eq_true rfl), (Nat.le_of_ble_eq_true rfl)⟩ dL_act_541 ⟨(Nat.le_of_ble_eq_true rfl), (Nat.le_of_ble_eq_true rfl)⟩ (fun r H locs hp hS => ?_)
        obtain ⟨rfl, hP⟩ := hp
        have hf : f_act S v = f_spent S (lowf (v >>> (nI 8 &&& 31)) (nI 3)) := (cif_f hodd).trans (by rw [hs]; rfl)
        rw [← hQ]
        refine x_reti C rfl hS (Nat.le_of_ble_eq_true rfl) (Nat.le_of_ble_eq_true rfl) dL_act_544 ?_
        rw [hpost]
        exact ⟨by rw [hf], by rw [hf]; exact hP⟩
      · skip
        refine lv_tableIn (tgt := 545) (off := 394) hx hb dL_act_151 (by decide +kernel) (by decide +kernel) rfl rfl ?_
        have hs : swk ((lowf v (nI 32))) = 26 := by rw [← hkk]; decide +kernel
        refine lv_aload_n hx hb dL_act_545 rfl (lv_at hl 6 rfl) ?_
        refine lv_iload hx hb dL_act_546 (lv_at hl 3 rfl) ?_
        refine lv_iload_n hx hb dL_act_548 rfl (lv_at hl 4 rfl) ?_
        refine x_callH (k := 3) C hS (l_finds l hfl (E := E) (base := base) hI (x := (lowf (v >>> (nI 8 &&& 31)) (nI 3))) (z := (lowf (v >>> (nI 5 &&& 31)) (nI 5))) al w hR) hH qw_602 qw_0 ⟨by decide +kernel, by decide +kernel, by decide +kernel⟩ qw_601 qw_600 rfl [] rfl hl.1 (Nat.le_of_ble_eq_true rfl) ⟨(Nat.le_of_ble_eq_true rfl), (Nat.le_of_ble_eq_true rfl)⟩ dL_act_549 ⟨(Nat.le_of_ble_eq_true rfl), (Nat.le_of_ble_eq_true rfl)⟩ (fun r H locs hp hS => ?_)
        obtain ⟨rfl, hP⟩ := hp
        have hf : f_act S v = f_finds S (lowf (v >>> (nI 8 &&& 31)) (nI 3)) (lowf (v >>> (nI 5 &&& 31)) (nI 5)) := (cif_f hodd).trans (by rw [hs]; rfl)
        rw [← hQ]
        refine x_reti C rfl hS (Nat.le_of_ble_eq_true rfl) (Nat.le_of_ble_eq_true rfl) dL_act_552 ?_
        rw [hpost]
        exact ⟨by rw [hf], by rw [hf]; exact hP⟩
      · skip
        refine lv_tableIn (tgt := 553) (off := 402) hx hb dL_act_151 (by decide +kernel) (by decide +kernel) rfl rfl ?_
        have hs : swk ((lowf v (nI 32))) = 27 := by rw [← hkk]; decide +kernel
        refine lv_aload_n hx hb dL_act_553 rfl (lv_at hl 6 rfl) ?_
        refine lv_iload_n hx hb dL_act_554 rfl (lv_at hl 5 rfl) ?_
        refine lv_if_eq (tgt := 563) hx hb dL_act_555 (by decide) (fun c_27 => ?_) (fun c_27 => absurd (by decide +kernel) c_27)
        clear c_27
        refine lv_iload_n hx hb dL_act_563 rfl (lv_at hl 7 rfl) ?_
        refine lv_bipush (v := nI 9) hx hb dL_act_564 (by decide +kernel) ?_
        refine lv_ishr hx hb dL_act_566 ?_
        refine lv_bipush (v := nI 8) hx hb dL_act_567 (by decide +kernel) ?_
        refine x_callS C hS (c_low l (E := E) (base := base) (v := (v >>> (nI 9 &&& 31))) (n := nI 8) (by decide +kernel)) hH kL_low qw_113 qw_112 rfl [.ref (al (0, 0, 0))] rfl hl.1 (Nat.le_of_ble_eq_true rfl) ⟨(Nat.le_of_ble_eq_true rfl), (Nat.le_of_ble_eq_true rfl)⟩ dL_act_569 ⟨(Nat.le_of_ble_eq_true rfl), (Nat.le_of_ble_eq_true rfl)⟩ (fun r H locs hp hS => ?_)
        obtain ⟨rfl, hH⟩ := hp
        refine lv_iload_n hx hb dL_act_572 rfl (lv_at hl 4 rfl) ?_
        refine x_callH (k := 3) C hS (l_together l hfl (E := E) (base := base) hI (xs := (lowf (v >>> (nI 9 &&& 31)) (nI 8))) (z := (lowf (v >>> (nI 5 &&& 31)) (nI 5))) al w hR) hH qw_610 qw_0 ⟨by decide +kernel, by decide +kernel, by decide +kernel⟩ qw_609 qw_608 rfl [] rfl hl.1 (Nat.le_of_ble_eq_true rfl) ⟨(Nat.le_of_ble_eq_true rfl), (Nat.le_of_ble_eq_true rfl)⟩ dL_act_573 ⟨(Nat.le_of_ble_eq_true rfl), (Nat.le_of_ble_eq_true rfl)⟩ (fun r H locs hp hS => ?_)
        obtain ⟨rfl, hP⟩ := hp
        have hf : f_act S v = f_together S (lowf (v >>> (nI 9 &&& 31)) (nI 8)) (lowf (v >>> (nI 5 &&& 31)) (nI 5)) := (cif_f hodd).trans (by rw [hs]; rfl)
        rw [← hQ]
        refine x_reti C rfl hS (Nat.le_of_ble_eq_true rfl) (Nat.le_of_ble_eq_true rfl) dL_act_576 ?_
        rw [hpost]
        exact ⟨by rw [hf], by rw [hf]; exact hP⟩
      · skip
        refine lv_tableIn (tgt := 577) (off := 426) hx hb dL_act_151 (by decide +kernel) (by decide +kernel) rfl rfl ?_
        have hs : swk ((lowf v (nI 32))) = 28 := by rw [← hkk]; decide +kernel
        refine lv_aload_n hx hb dL_act_577 rfl (lv_at hl 6 rfl) ?_
        refine lv_iload hx hb dL_act_578 (lv_at hl 3 rfl) ?_
        refine lv_iload_n hx hb dL_act_580 rfl (lv_at hl 4 rfl) ?_
        refine x_callH (k := 3) C hS (l_rightTo l hfl (E := E) (base := base) hI (x := (lowf (v >>> (nI 8 &&& 31)) (nI 3))) (z := (lowf (v >>> (nI 5 &&& 31)) (nI 5))) al w hR) hH qw_627 qw_0 ⟨by decide +kernel, by decide +kernel, by decide +kernel⟩ qw_626 qw_625 rfl [] rfl hl.1 (Nat.le_of_ble_eq_true rfl) ⟨(Nat.le_of_ble_eq_true rfl), (Nat.le_of_ble_eq_true rfl)⟩ dL_act_581 ⟨(Nat.le_of_ble_eq_true rfl), (Nat.le_of_ble_eq_true rfl)⟩ (fun r H locs hp hS => ?_)
        obtain ⟨rfl, hP⟩ := hp
        have hf : f_act S v = f_rightTo S (lowf (v >>> (nI 8 &&& 31)) (nI 3)) (lowf (v >>> (nI 5 &&& 31)) (nI 5)) := (cif_f hodd).trans (by rw [hs]; rfl)
        rw [← hQ]
        refine x_reti C rfl hS (Nat.le_of_ble_eq_true rfl) (Nat.le_of_ble_eq_true rfl) dL_act_584 ?_
        rw [hpost]
        exact ⟨by rw [hf], by rw [hf]; exact hP⟩
      · skip
        refine lv_tableIn (tgt := 585) (off := 434) hx hb dL_act_151 (by decide +kernel) (by decide +kernel) rfl rfl ?_
        have hs : swk ((lowf v (nI 32))) = 29 := by rw [← hkk]; decide +kernel
        refine lv_aload_n hx hb dL_act_585 rfl (lv_at hl 6 rfl) ?_
        refine lv_iload_n hx hb dL_act_586 rfl (lv_at hl 4 rfl) ?_
        refine x_callH (k := 2) C hS (l_isSealed l hfl (E := E) (base := base) hI (x := (lowf (v >>> (nI 5 &&& 31)) (nI 5))) al w hR) hH qw_634 qw_0 ⟨by decide +kernel, by decide +kernel, by decide +kernel⟩ qw_633 qw_632 rfl [] rfl hl.1 (Nat.le_of_ble_eq_true rfl) ⟨(Nat.le_of_ble_eq_true rfl), (Nat.le_of_ble_eq_true rfl)⟩ dL_act_587 ⟨(Nat.le_of_ble_eq_true rfl), (Nat.le_of_ble_eq_true rfl)⟩ (fun r H locs hp hS => ?_)
        obtain ⟨rfl, hP⟩ := hp
        have hf : f_act S v = f_isSealed S (lowf (v >>> (nI 5 &&& 31)) (nI 5)) := (cif_f hodd).trans (by rw [hs]; rfl)
        rw [← hQ]
        refine x_reti C rfl hS (Nat.le_of_ble_eq_true rfl) (Nat.le_of_ble_eq_true rfl) dL_act_590 ?_
        rw [hpost]
        exact ⟨by rw [hf], by rw [hf]; exact hP⟩
  · skip
    refine lv_iconst (v := nI 1) hx hb dL_act_12 (by decide +kernel) ?_
    refine lv_goto (tgt := 17) hx hb dL_act_13 (by decide) ?_
    refine lv_istore_n (lv' := [(2, .int (nI 1)), (0, .ref (al (0, 0, 0))), (1, .int v)]) hx hb dL_act_17 rfl hl (by decide) rfl (fun ls hl => ?_)
    refine lv_iload_n hx hb dL_act_18 rfl (lv_at hl 0 rfl) ?_
    refine lv_if_eq (tgt := 35) hx hb dL_act_19 (by decide) (fun c_28 => absurd c_28 (by decide +kernel)) (fun c_28 => ?_)
    clear c_28
    refine lv_iload_n hx hb dL_act_22 rfl (lv_at hl 2 rfl) ?_
    refine lv_iconst (v := nI 5) hx hb dL_act_23 (by decide +kernel) ?_
    refine lv_ishr hx hb dL_act_24 ?_
    refine lv_bipush (v := nI 20) hx hb dL_act_25 (by decide +kernel) ?_
    refine x_callS C hS (c_low l (E := E) (base := base) (v := (v >>> (nI 5 &&& 31))) (n := nI 20) (by decide +kernel)) hH kL_low qw_113 qw_112 rfl [] rfl hl.1 (Nat.le_of_ble_eq_true rfl) ⟨(Nat.le_of_ble_eq_true rfl), (Nat.le_of_ble_eq_true rfl)⟩ dL_act_27 ⟨(Nat.le_of_ble_eq_true rfl), (Nat.le_of_ble_eq_true rfl)⟩ (fun r H locs hp hS => ?_)
    obtain ⟨rfl, hH⟩ := hp
    refine lv_iconst (v := nI 2) hx hb dL_act_30 (by decide +kernel) ?_
    refine lv_isub hx hb dL_act_31 ?_
    refine lv_goto (tgt := 42) hx hb dL_act_32 (by decide) ?_
    refine lv_istore_n (lv' := [(3, .int ((lowf (v >>> (nI 5 &&& 31)) (nI 20)) - nI 2)), (2, .int (nI 1)), (0, .ref (al (0, 0, 0))), (1, .int v)]) hx hb dL_act_42 rfl hl (by decide) rfl (fun ls hl => ?_)
    refine lv_iload_n hx hb dL_act_43 rfl (lv_at hl 1 rfl) ?_
    refine lv_if_eq (tgt := 61) hx hb dL_act_44 (by decide) (fun c_29 => absurd c_29 (by decide +kernel)) (fun c_29 => ?_)
    clear c_29
    refine lv_iload_n hx hb dL_act_47 rfl (lv_at hl 3 rfl) ?_
    refine lv_bipush (v := nI 8) hx hb dL_act_48 (by decide +kernel) ?_
    refine lv_ishr hx hb dL_act_50 ?_
    refine lv_bipush (v := nI 9) hx hb dL_act_51 (by decide +kernel) ?_
    refine x_callS C hS (c_low l (E := E) (base := base) (v := (v >>> (nI 8 &&& 31))) (n := nI 9) (by decide +kernel)) hH kL_low qw_113 qw_112 rfl [] rfl hl.1 (Nat.le_of_ble_eq_true rfl) ⟨(Nat.le_of_ble_eq_true rfl), (Nat.le_of_ble_eq_true rfl)⟩ dL_act_53 ⟨(Nat.le_of_ble_eq_true rfl), (Nat.le_of_ble_eq_true rfl)⟩ (fun r H locs hp hS => ?_)
    obtain ⟨rfl, hH⟩ := hp
    refine lv_iconst (v := nI 1) hx hb dL_act_56 (by decide +kernel) ?_
    refine lv_isub hx hb dL_act_57 ?_
    refine lv_goto (tgt := 69) hx hb dL_act_58 (by decide) ?_
    refine lv_istore (lv' := [(4, .int ((lowf (v >>> (nI 8 &&& 31)) (nI 9)) - nI 1)), (3, .int ((lowf (v >>> (nI 5 &&& 31)) (nI 20)) - nI 2)), (2, .int (nI 1)), (0, .ref (al (0, 0, 0))), (1, .int v)]) hx hb dL_act_69 hl (by decide) rfl (fun ls hl => ?_)
    refine lv_iload_n hx hb dL_act_71 rfl (lv_at hl 2 rfl) ?_
    refine lv_if_eq (tgt := 89) hx hb dL_act_72 (by decide) (fun c_30 => absurd c_30 (by decide +kernel)) (fun c_30 => ?_)
    clear c_30
    refine lv_iload_n hx hb dL_act_75 rfl (lv_at hl 4 rfl) ?_
    refine lv_bipush (v := nI 11) hx hb dL_act_76 (by decide +kernel) ?_
    refine lv_ishr hx hb dL_act_78 ?_
    refine lv_bipush (v := nI 12) hx hb dL_act_79 (by decide +kernel) ?_
    refine x_callS C hS (c_low l (E := E) (base := base) (v := (v >>> (nI 11 &&& 31))) (n := nI 12) (by decide +kernel)) hH kL_low qw_113 qw_112 rfl [] rfl hl.1 (Nat.le_of_ble_eq_true rfl) ⟨(Nat.le_of_ble_eq_true rfl), (Nat.le_of_ble_eq_true rfl)⟩ dL_act_81 ⟨(Nat.le_of_ble_eq_true rfl), (Nat.le_of_ble_eq_true rfl)⟩ (fun r H locs hp hS => ?_)
    obtain ⟨rfl, hH⟩ := hp
    refine lv_iconst (v := nI 2) hx hb dL_act_84 (by decide +kernel) ?_
    refine lv_isub hx hb dL_act_85 ?_
    refine lv_goto (tgt := 99) hx hb dL_act_86 (by decide) ?_
    refine lv_istore (lv' := [(5, .int ((lowf (v >>> (nI 11 &&& 31)) (nI 12)) - nI 2)), (4, .int ((lowf (v >>> (nI 8 &&& 31)) (nI 9)) - nI 1)), (3, .int ((lowf (v >>> (nI 5 &&& 31)) (nI 20)) - nI 2)), (2, .int (nI 1)), (0, .ref (al (0, 0, 0))), (1, .int v)]) hx hb dL_act_99 hl (by decide) rfl (fun ls hl => ?_)
    refine lv_iload_n hx hb dL_act_101 rfl (lv_at hl 3 rfl) ?_
    refine lv_if_eq (tgt := 112) hx hb dL_act_102 (by decide) (fun c_31 => absurd c_31 (by decide +kernel)) (fun c_31 => ?_)
    clear c_31
    refine lv_iload_n hx hb dL_act_105 rfl (lv_at hl 5 rfl) ?_
    refine lv_bipush (v := nI 9) hx hb dL_act_106 (by decide +kernel) ?_
    refine lv_ishr hx hb dL_act_108 ?_
    refine lv_goto (tgt := 123) hx hb dL_act_109 (by decide) ?_
    refine lv_istore (lv' := [(6, .int (v >>> (nI 9 &&& 31))), (5, .int ((lowf (v >>> (nI 11 &&& 31)) (nI 12)) - nI 2)), (4, .int ((lowf (v >>> (nI 8 &&& 31)) (nI 9)) - nI 1)), (3, .int ((lowf (v >>> (nI 5 &&& 31)) (nI 20)) - nI 2)), (2, .int (nI 1)), (0, .ref (al (0, 0, 0))), (1, .int v)]) hx hb dL_act_123 hl (by decide) rfl (fun ls hl => ?_)
    refine lv_iload_n hx hb dL_act_125 rfl (lv_at hl 4 rfl) ?_
    refine lv_if_eq (tgt := 135) hx hb dL_act_126 (by decide) (fun c_32 => absurd c_32 (by decide +kernel)) (fun c_32 => ?_)
    clear c_32
    refine lv_iload_n hx hb dL_act_129 rfl (lv_at hl 6 rfl) ?_
    refine lv_iconst (v := nI 4) hx hb dL_act_130 (by decide +kernel) ?_
    refine lv_ishr hx hb dL_act_131 ?_
    refine lv_goto (tgt := 143) hx hb dL_act_132 (by decide) ?_
    refine lv_istore (lv' := [(7, .int (v >>> (nI 4 &&& 31))), (6, .int (v >>> (nI 9 &&& 31))), (5, .int ((lowf (v >>> (nI 11 &&& 31)) (nI 12)) - nI 2)), (4, .int ((lowf (v >>> (nI 8 &&& 31)) (nI 9)) - nI 1)), (3, .int ((lowf (v >>> (nI 5 &&& 31)) (nI 20)) - nI 2)), (2, .int (nI 1)), (0, .ref (al (0, 0, 0))), (1, .int v)]) hx hb dL_act_143 hl (by decide) rfl (fun ls hl => ?_)
    refine lv_iload_n hx hb dL_act_145 rfl (lv_at hl 7 rfl) ?_
    refine lv_bipush (v := nI 32) hx hb dL_act_146 (by decide +kernel) ?_
    refine x_callS C hS (c_low l (E := E) (base := base) (v := v) (n := nI 32) (by decide +kernel)) hH kL_low qw_113 qw_112 rfl [] rfl hl.1 (Nat.le_of_ble_eq_true rfl) ⟨(Nat.le_of_ble_eq_true rfl), (Nat.le_of_ble_eq_true rfl)⟩ dL_act_148 ⟨(Nat.le_of_ble_eq_true rfl), (Nat.le_of_ble_eq_true rfl)⟩ (fun r H locs hp hS => ?_)
    obtain ⟨rfl, hH⟩ := hp
    obtain ⟨kk, hkk⟩ : ∃ z, z = (lowf v (nI 32)) := ⟨_, rfl⟩
    rw [← hkk]
    rcases sw30 kk with h9 | ⟨j, hj, rfl⟩
    · skip
      refine lv_tableOut (tgt := 591) hx hb dL_act_151 h9 rfl ?_
      have hs : swk ((lowf v (nI 32))) = 30 := by rw [← hkk]; exact swk_o h9
      refine lv_aload_n hx hb dL_act_591 rfl (lv_at hl 6 rfl) ?_
      refine lv_iload hx hb dL_act_592 (lv_at hl 3 rfl) ?_
      refine lv_iload_n hx hb dL_act_594 rfl (lv_at hl 5 rfl) ?_
      refine lv_if_eq (tgt := 603) hx hb dL_act_595 (by decide) (fun c_33 => absurd c_33 (by decide +kernel)) (fun c_33 => ?_)
      clear c_33
      refine lv_iload hx hb dL_act_598 (lv_at hl 0 rfl) ?_
      refine lv_goto (tgt := 611) hx hb dL_act_600 (by decide) ?_
      refine x_callH (k := 3) C hS (l_count l hfl (E := E) (base := base) hI (x := ((lowf (v >>> (nI 8 &&& 31)) (nI 9)) - nI 1)) (z := (v >>> (nI 4 &&& 31))) al w hR) hH qw_641 qw_0 ⟨by decide +kernel, by decide +kernel, by decide +kernel⟩ qw_640 qw_639 rfl [] rfl hl.1 (Nat.le_of_ble_eq_true rfl) ⟨(Nat.le_of_ble_eq_true rfl), (Nat.le_of_ble_eq_true rfl)⟩ dL_act_611 ⟨(Nat.le_of_ble_eq_true rfl), (Nat.le_of_ble_eq_true rfl)⟩ (fun r H locs hp hS => ?_)
      obtain ⟨rfl, hP⟩ := hp
      have hf : f_act S v = f_count S ((lowf (v >>> (nI 8 &&& 31)) (nI 9)) - nI 1) (v >>> (nI 4 &&& 31)) := (cif_t hodd).trans (by rw [hs]; rfl)
      rw [← hQ]
      refine x_reti C rfl hS (Nat.le_of_ble_eq_true rfl) (Nat.le_of_ble_eq_true rfl) dL_act_614 ?_
      rw [hpost]
      exact ⟨by rw [hf], by rw [hf]; exact hP⟩
    · skip
      rcases (show j = 0 ∨ j = 1 ∨ j = 2 ∨ j = 3 ∨ j = 4 ∨ j = 5 ∨ j = 6 ∨ j = 7 ∨ j = 8 ∨ j = 9 ∨ j = 10 ∨ j = 11 ∨ j = 12 ∨ j = 13 ∨ j = 14 ∨ j = 15 ∨ j = 16 ∨ j = 17 ∨ j = 18 ∨ j = 19 ∨ j = 20 ∨ j = 21 ∨ j = 22 ∨ j = 23 ∨ j = 24 ∨ j = 25 ∨ j = 26 ∨ j = 27 ∨ j = 28 ∨ j = 29 by omega) with rfl | rfl | rfl | rfl | rfl | rfl | rfl | rfl | rfl | rfl | rfl | rfl | rfl | rfl | rfl | rfl | rfl | rfl | rfl | rfl | rfl | rfl | rfl | rfl | rfl | rfl | rfl | rfl | rfl | rfl
      · skip
        refine lv_tableIn (tgt := 284) (off := 133) hx hb dL_act_151 (by decide +kernel) (by decide +kernel) rfl rfl ?_
        have hs : swk ((lowf v (nI 32))) = 0 := by rw [← hkk]; decide +kernel
        refine lv_aload_n hx hb dL_act_284 rfl (lv_at hl 6 rfl) ?_
        refine lv_iload_n hx hb dL_act_285 rfl (lv_at hl 5 rfl) ?_
        refine lv_if_eq (tgt := 294) hx hb dL_act_286 (by decide) (fun c_34 => absurd c_34 (by decide +kernel)) (fun c_34 => ?_)
        clear c_34
        refine lv_iload hx hb dL_act_289 (lv_at hl 1 rfl) ?_
        refine lv_goto (tgt := 304) hx hb dL_act_291 (by decide) ?_
        refine x_callH (k := 2) C hS (l_file l hfl (E := E) (base := base) hI (x := (v >>> (nI 9 &&& 31))) al w hR) hH qw_118 qw_0 ⟨by decide +kernel, by decide +kernel, by decide +kernel⟩ qw_117 qw_116 rfl [] rfl hl.1 (Nat.le_of_ble_eq_true rfl) ⟨(Nat.le_of_ble_eq_true rfl), (Nat.le_of_ble_eq_true rfl)⟩ dL_act_304 ⟨(Nat.le_of_ble_eq_true rfl), (Nat.le_of_ble_eq_true rfl)⟩ (fun r H locs hp hS => ?_)
        obtain ⟨rfl, hP⟩ := hp
        have hf : f_act S v = f_file S (v >>> (nI 9 &&& 31)) := (cif_t hodd).trans (by rw [hs]; rfl)
        rw [← hQ]
        refine x_reti C rfl hS (Nat.le_of_ble_eq_true rfl) (Nat.le_of_ble_eq_true rfl) dL_act_307 ?_
        rw [hpost]
        exact ⟨by rw [hf], by rw [hf]; exact hP⟩
      · skip
        refine lv_tableIn (tgt := 284) (off := 133) hx hb dL_act_151 (by decide +kernel) (by decide +kernel) rfl rfl ?_
        have hs : swk ((lowf v (nI 32))) = 1 := by rw [← hkk]; decide +kernel
        refine lv_aload_n hx hb dL_act_284 rfl (lv_at hl 6 rfl) ?_
        refine lv_iload_n hx hb dL_act_285 rfl (lv_at hl 5 rfl) ?_
        refine lv_if_eq (tgt := 294) hx hb dL_act_286 (by decide) (fun c_35 => absurd c_35 (by decide +kernel)) (fun c_35 => ?_)
        clear c_35
        refine lv_iload hx hb dL_act_289 (lv_at hl 1 rfl) ?_
        refine lv_goto (tgt := 304) hx hb dL_act_291 (by decide) ?_
        refine x_callH (k := 2) C hS (l_file l hfl (E := E) (base := base) hI (x := (v >>> (nI 9 &&& 31))) al w hR) hH qw_118 qw_0 ⟨by decide +kernel, by decide +kernel, by decide +kernel⟩ qw_117 qw_116 rfl [] rfl hl.1 (Nat.le_of_ble_eq_true rfl) ⟨(Nat.le_of_ble_eq_true rfl), (Nat.le_of_ble_eq_true rfl)⟩ dL_act_304 ⟨(Nat.le_of_ble_eq_true rfl), (Nat.le_of_ble_eq_true rfl)⟩ (fun r H locs hp hS => ?_)
        obtain ⟨rfl, hP⟩ := hp
        have hf : f_act S v = f_file S (v >>> (nI 9 &&& 31)) := (cif_t hodd).trans (by rw [hs]; rfl)
        rw [← hQ]
        refine x_reti C rfl hS (Nat.le_of_ble_eq_true rfl) (Nat.le_of_ble_eq_true rfl) dL_act_307 ?_
        rw [hpost]
        exact ⟨by rw [hf], by rw [hf]; exact hP⟩
      · skip
        refine lv_tableIn (tgt := 284) (off := 133) hx hb dL_act_151 (by decide +kernel) (by decide +kernel) rfl rfl ?_
        have hs : swk ((lowf v (nI 32))) = 2 := by rw [← hkk]; decide +kernel
        refine lv_aload_n hx hb dL_act_284 rfl (lv_at hl 6 rfl) ?_
        refine lv_iload_n hx hb dL_act_285 rfl (lv_at hl 5 rfl) ?_
        refine lv_if_eq (tgt := 294) hx hb dL_act_286 (by decide) (fun c_36 => absurd c_36 (by decide +kernel)) (fun c_36 => ?_)
        clear c_36
        refine lv_iload hx hb dL_act_289 (lv_at hl 1 rfl) ?_
        refine lv_goto (tgt := 304) hx hb dL_act_291 (by decide) ?_
        refine x_callH (k := 2) C hS (l_file l hfl (E := E) (base := base) hI (x := (v >>> (nI 9 &&& 31))) al w hR) hH qw_118 qw_0 ⟨by decide +kernel, by decide +kernel, by decide +kernel⟩ qw_117 qw_116 rfl [] rfl hl.1 (Nat.le_of_ble_eq_true rfl) ⟨(Nat.le_of_ble_eq_true rfl), (Nat.le_of_ble_eq_true rfl)⟩ dL_act_304 ⟨(Nat.le_of_ble_eq_true rfl), (Nat.le_of_ble_eq_true rfl)⟩ (fun r H locs hp hS => ?_)
        obtain ⟨rfl, hP⟩ := hp
        have hf : f_act S v = f_file S (v >>> (nI 9 &&& 31)) := (cif_t hodd).trans (by rw [hs]; rfl)
        rw [← hQ]
        refine x_reti C rfl hS (Nat.le_of_ble_eq_true rfl) (Nat.le_of_ble_eq_true rfl) dL_act_307 ?_
        rw [hpost]
        exact ⟨by rw [hf], by rw [hf]; exact hP⟩
      · skip
        refine lv_tableIn (tgt := 308) (off := 157) hx hb dL_act_151 (by decide +kernel) (by decide +kernel) rfl rfl ?_
        have hs : swk ((lowf v (nI 32))) = 3 := by rw [← hkk]; decide +kernel
        refine lv_aload_n hx hb dL_act_308 rfl (lv_at hl 6 rfl) ?_
        refine lv_iload_n hx hb dL_act_309 rfl (lv_at hl 4 rfl) ?_
        refine lv_iload_n hx hb dL_act_310 rfl (lv_at hl 5 rfl) ?_
        refine lv_if_eq (tgt := 319) hx hb dL_act_311 (by decide) (fun c_37 => absurd c_37 (by decide +kernel)) (fun c_37 => ?_)
        clear c_37
        refine lv_iload hx hb dL_act_314 (lv_at hl 1 rfl) ?_
        refine lv_goto (tgt := 329) hx hb dL_act_316 (by decide) ?_
        refine x_callH (k := 3) C hS (l_change l hfl (E := E) (base := base) hI (x := ((lowf (v >>> (nI 5 &&& 31)) (nI 20)) - nI 2)) (y := (v >>> (nI 9 &&& 31))) al w hR) hH qw_292 qw_0 ⟨by decide +kernel, by decide +kernel, by decide +kernel⟩ qw_291 qw_290 rfl [] rfl hl.1 (Nat.le_of_ble_eq_true rfl) ⟨(Nat.le_of_ble_eq_true rfl), (Nat.le_of_ble_eq_true rfl)⟩ dL_act_329 ⟨(Nat.le_of_ble_eq_true rfl), (Nat.le_of_ble_eq_true rfl)⟩ (fun r H locs hp hS => ?_)
        obtain ⟨rfl, hP⟩ := hp
        have hf : f_act S v = f_change S ((lowf (v >>> (nI 5 &&& 31)) (nI 20)) - nI 2) (v >>> (nI 9 &&& 31)) := (cif_t hodd).trans (by rw [hs]; rfl)
        rw [← hQ]
        refine x_reti C rfl hS (Nat.le_of_ble_eq_true rfl) (Nat.le_of_ble_eq_true rfl) dL_act_332 ?_
        rw [hpost]
        exact ⟨by rw [hf], by rw [hf]; exact hP⟩
      · skip
        refine lv_tableIn (tgt := 333) (off := 182) hx hb dL_act_151 (by decide +kernel) (by decide +kernel) rfl rfl ?_
        have hs : swk ((lowf v (nI 32))) = 4 := by rw [← hkk]; decide +kernel
        refine lv_aload_n hx hb dL_act_333 rfl (lv_at hl 6 rfl) ?_
        refine lv_iload_n hx hb dL_act_334 rfl (lv_at hl 5 rfl) ?_
        refine lv_if_eq (tgt := 343) hx hb dL_act_335 (by decide) (fun c_38 => absurd c_38 (by decide +kernel)) (fun c_38 => ?_)
        clear c_38
        refine lv_iload hx hb dL_act_338 (lv_at hl 1 rfl) ?_
        refine lv_goto (tgt := 352) hx hb dL_act_340 (by decide) ?_
        refine x_callH (k := 2) C hS (l_party l hfl (E := E) (base := base) hI (x := (v >>> (nI 9 &&& 31))) al w hR) hH qw_375 qw_0 ⟨by decide +kernel, by decide +kernel, by decide +kernel⟩ qw_374 qw_373 rfl [] rfl hl.1 (Nat.le_of_ble_eq_true rfl) ⟨(Nat.le_of_ble_eq_true rfl), (Nat.le_of_ble_eq_true rfl)⟩ dL_act_352 ⟨(Nat.le_of_ble_eq_true rfl), (Nat.le_of_ble_eq_true rfl)⟩ (fun r H locs hp hS => ?_)
        obtain ⟨rfl, hP⟩ := hp
        have hf : f_act S v = f_party S (v >>> (nI 9 &&& 31)) := (cif_t hodd).trans (by rw [hs]; rfl)
        rw [← hQ]
        refine x_reti C rfl hS (Nat.le_of_ble_eq_true rfl) (Nat.le_of_ble_eq_true rfl) dL_act_355 ?_
        rw [hpost]
        exact ⟨by rw [hf], by rw [hf]; exact hP⟩
      · skip
        refine lv_tableIn (tgt := 333) (off := 182) hx hb dL_act_151 (by decide +kernel) (by decide +kernel) rfl rfl ?_
        have hs : swk ((lowf v (nI 32))) = 5 := by rw [← hkk]; decide +kernel
        refine lv_aload_n hx hb dL_act_333 rfl (lv_at hl 6 rfl) ?_
        refine lv_iload_n hx hb dL_act_334 rfl (lv_at hl 5 rfl) ?_
        refine lv_if_eq (tgt := 343) hx hb dL_act_335 (by decide) (fun c_39 => absurd c_39 (by decide +kernel)) (fun c_39 => ?_)
        clear c_39
        refine lv_iload hx hb dL_act_338 (lv_at hl 1 rfl) ?_
        refine lv_goto (tgt := 352) hx hb dL_act_340 (by decide) ?_
        refine x_callH (k := 2) C hS (l_party l hfl (E := E) (base := base) hI (x := (v >>> (nI 9 &&& 31))) al w hR) hH qw_375 qw_0 ⟨by decide +kernel, by decide +kernel, by decide +kernel⟩ qw_374 qw_373 rfl [] rfl hl.1 (Nat.le_of_ble_eq_true rfl) ⟨(Nat.le_of_ble_eq_true rfl), (Nat.le_of_ble_eq_true rfl)⟩ dL_act_352 ⟨(Nat.le_of_ble_eq_true rfl), (Nat.le_of_ble_eq_true rfl)⟩ (fun r H locs hp hS => ?_)
        obtain ⟨rfl, hP⟩ := hp
        have hf : f_act S v = f_party S (v >>> (nI 9 &&& 31)) := (cif_t hodd).trans (by rw [hs]; rfl)
        rw [← hQ]
        refine x_reti C rfl hS (Nat.le_of_ble_eq_true rfl) (Nat.le_of_ble_eq_true rfl) dL_act_355 ?_
        rw [hpost]
        exact ⟨by rw [hf], by rw [hf]; exact hP⟩
      · skip
        refine lv_tableIn (tgt := 356) (off := 205) hx hb dL_act_151 (by decide +kernel) (by decide +kernel) rfl rfl ?_
        have hs : swk ((lowf v (nI 32))) = 6 := by rw [← hkk]; decide +kernel
        refine lv_aload_n hx hb dL_act_356 rfl (lv_at hl 6 rfl) ?_
        refine lv_iload hx hb dL_act_357 (lv_at hl 3 rfl) ?_
        refine lv_iload_n hx hb dL_act_359 rfl (lv_at hl 5 rfl) ?_
        refine lv_if_eq (tgt := 368) hx hb dL_act_360 (by decide) (fun c_40 => absurd c_40 (by decide +kernel)) (fun c_40 => ?_)
        clear c_40
        refine lv_iload hx hb dL_act_363 (lv_at hl 1 rfl) ?_
        refine lv_goto (tgt := 377) hx hb dL_act_365 (by decide) ?_
        refine x_callH (k := 3) C hS (l_budget l hfl (E := E) (base := base) hI (x := ((lowf (v >>> (nI 8 &&& 31)) (nI 9)) - nI 1)) (y := (v >>> (nI 9 &&& 31))) al w hR) hH qw_413 qw_0 ⟨by decide +kernel, by decide +kernel, by decide +kernel⟩ qw_412 qw_411 rfl [] rfl hl.1 (Nat.le_of_ble_eq_true rfl) ⟨(Nat.le_of_ble_eq_true rfl), (Nat.le_of_ble_eq_true rfl)⟩ dL_act_377 ⟨(Nat.le_of_ble_eq_true rfl), (Nat.le_of_ble_eq_true rfl)⟩ (fun r H locs hp hS => ?_)
        obtain ⟨rfl, hP⟩ := hp
        have hf : f_act S v = f_budget S ((lowf (v >>> (nI 8 &&& 31)) (nI 9)) - nI 1) (v >>> (nI 9 &&& 31)) := (cif_t hodd).trans (by rw [hs]; rfl)
        rw [← hQ]
        refine x_reti C rfl hS (Nat.le_of_ble_eq_true rfl) (Nat.le_of_ble_eq_true rfl) dL_act_380 ?_
        rw [hpost]
        exact ⟨by rw [hf], by rw [hf]; exact hP⟩
      · skip
        refine lv_tableIn (tgt := 381) (off := 230) hx hb dL_act_151 (by decide +kernel) (by decide +kernel) rfl rfl ?_
        have hs : swk ((lowf v (nI 32))) = 7 := by rw [← hkk]; decide +kernel
        refine lv_aload_n hx hb dL_act_381 rfl (lv_at hl 6 rfl) ?_
        refine lv_iload hx hb dL_act_382 (lv_at hl 3 rfl) ?_
        refine lv_iload_n hx hb dL_act_384 rfl (lv_at hl 4 rfl) ?_
        refine lv_iload_n hx hb dL_act_385 rfl (lv_at hl 5 rfl) ?_
        refine lv_if_eq (tgt := 394) hx hb dL_act_386 (by decide) (fun c_41 => absurd c_41 (by decide +kernel)) (fun c_41 => ?_)
        clear c_41
        refine lv_iload hx hb dL_act_389 (lv_at hl 2 rfl) ?_
        refine lv_goto (tgt := 404) hx hb dL_act_391 (by decide) ?_
        refine lv_iload hx hb dL_act_404 (lv_at hl 0 rfl) ?_
        refine lv_iconst (v := nI 4) hx hb dL_act_406 (by decide +kernel) ?_
        refine lv_idiv hx hb dL_act_407 (by decide +kernel) ?_
        refine lv_iload_n hx hb dL_act_408 rfl (lv_at hl 5 rfl) ?_
        refine lv_if_eq (tgt := 417) hx hb dL_act_409 (by decide) (fun c_42 => absurd c_42 (by decide +kernel)) (fun c_42 => ?_)
        clear c_42
        refine lv_iload hx hb dL_act_412 (lv_at hl 0 rfl) ?_
        refine lv_goto (tgt := 432) hx hb dL_act_414 (by decide) ?_
        refine x_callH (k := 6) C hS (l_right l hfl (E := E) (base := base) hI (x := ((lowf (v >>> (nI 8 &&& 31)) (nI 9)) - nI 1)) (y := ((lowf (v >>> (nI 5 &&& 31)) (nI 20)) - nI 2)) (k := ((lowf (v >>> (nI 11 &&& 31)) (nI 12)) - nI 2)) (a := ((v >>> (nI 4 &&& 31)) / nI 4)) (b := (v >>> (nI 4 &&& 31))) al w hR) hH qw_425 qw_0 ⟨by decide +kernel, by decide +kernel, by decide +kernel⟩ qw_424 qw_423 rfl [] rfl hl.1 (Nat.le_of_ble_eq_true rfl) ⟨(Nat.le_of_ble_eq_true rfl), (Nat.le_of_ble_eq_true rfl)⟩ dL_act_432 ⟨(Nat.le_of_ble_eq_true rfl), (Nat.le_of_ble_eq_true rfl)⟩ (fun r H locs hp hS => ?_)
        obtain ⟨rfl, hP⟩ := hp
        have hf : f_act S v = f_right S ((lowf (v >>> (nI 8 &&& 31)) (nI 9)) - nI 1) ((lowf (v >>> (nI 5 &&& 31)) (nI 20)) - nI 2) ((lowf (v >>> (nI 11 &&& 31)) (nI 12)) - nI 2) ((v >>> (nI 4 &&& 31)) / nI 4) (v >>> (nI 4 &&& 31)) := (cif_t hodd).trans (by rw [hs]; rfl)
        rw [← hQ]
        refine x_reti C rfl hS (Nat.le_of_ble_eq_true rfl) (Nat.le_of_ble_eq_true rfl) dL_act_435 ?_
        rw [hpost]
        exact ⟨by rw [hf], by rw [hf]; exact hP⟩
      · skip
        refine lv_tableIn (tgt := 381) (off := 230) hx hb dL_act_151 (by decide +kernel) (by decide +kernel) rfl rfl ?_
        have hs : swk ((lowf v (nI 32))) = 8 := by rw [← hkk]; decide +kernel
        refine lv_aload_n hx hb dL_act_381 rfl (lv_at hl 6 rfl) ?_
        refine lv_iload hx hb dL_act_382 (lv_at hl 3 rfl) ?_
        refine lv_iload_n hx hb dL_act_384 rfl (lv_at hl 4 rfl) ?_
        refine lv_iload_n hx hb dL_act_385 rfl (lv_at hl 5 rfl) ?_
        refine lv_if_eq (tgt := 394) hx hb dL_act_386 (by decide) (fun c_43 => absurd c_43 (by decide +kernel)) (fun c_43 => ?_)
        clear c_43
        refine lv_iload hx hb dL_act_389 (lv_at hl 2 rfl) ?_
        refine lv_goto (tgt := 404) hx hb dL_act_391 (by decide) ?_
        refine lv_iload hx hb dL_act_404 (lv_at hl 0 rfl) ?_
        refine lv_iconst (v := nI 4) hx hb dL_act_406 (by decide +kernel) ?_
        refine lv_idiv hx hb dL_act_407 (by decide +kernel) ?_
        refine lv_iload_n hx hb dL_act_408 rfl (lv_at hl 5 rfl) ?_
        refine lv_if_eq (tgt := 417) hx hb dL_act_409 (by decide) (fun c_44 => absurd c_44 (by decide +kernel)) (fun c_44 => ?_)
        clear c_44
        refine lv_iload hx hb dL_act_412 (lv_at hl 0 rfl) ?_
        refine lv_goto (tgt := 432) hx hb dL_act_414 (by decide) ?_
        refine x_callH (k := 6) C hS (l_right l hfl (E := E) (base := base) hI (x := ((lowf (v >>> (nI 8 &&& 31)) (nI 9)) - nI 1)) (y := ((lowf (v >>> (nI 5 &&& 31)) (nI 20)) - nI 2)) (k := ((lowf (v >>> (nI 11 &&& 31)) (nI 12)) - nI 2)) (a := ((v >>> (nI 4 &&& 31)) / nI 4)) (b := (v >>> (nI 4 &&& 31))) al w hR) hH qw_425 qw_0 ⟨by decide +kernel, by decide +kernel, by decide +kernel⟩ qw_424 qw_423 rfl [] rfl hl.1 (Nat.le_of_ble_eq_true rfl) ⟨(Nat.le_of_ble_eq_true rfl), (Nat.le_of_ble_eq_true rfl)⟩ dL_act_432 ⟨(Nat.le_of_ble_eq_true rfl), (Nat.le_of_ble_eq_true rfl)⟩ (fun r H locs hp hS => ?_)
        obtain ⟨rfl, hP⟩ := hp
        have hf : f_act S v = f_right S ((lowf (v >>> (nI 8 &&& 31)) (nI 9)) - nI 1) ((lowf (v >>> (nI 5 &&& 31)) (nI 20)) - nI 2) ((lowf (v >>> (nI 11 &&& 31)) (nI 12)) - nI 2) ((v >>> (nI 4 &&& 31)) / nI 4) (v >>> (nI 4 &&& 31)) := (cif_t hodd).trans (by rw [hs]; rfl)
        rw [← hQ]
        refine x_reti C rfl hS (Nat.le_of_ble_eq_true rfl) (Nat.le_of_ble_eq_true rfl) dL_act_435 ?_
        rw [hpost]
        exact ⟨by rw [hf], by rw [hf]; exact hP⟩
      · skip
        refine lv_tableIn (tgt := 381) (off := 230) hx hb dL_act_151 (by decide +kernel) (by decide +kernel) rfl rfl ?_
        have hs : swk ((lowf v (nI 32))) = 9 := by rw [← hkk]; decide +kernel
        refine lv_aload_n hx hb dL_act_381 rfl (lv_at hl 6 rfl) ?_
        refine lv_iload hx hb dL_act_382 (lv_at hl 3 rfl) ?_
        refine lv_iload_n hx hb dL_act_384 rfl (lv_at hl 4 rfl) ?_
        refine lv_iload_n hx hb dL_act_385 rfl (lv_at hl 5 rfl) ?_
        refine lv_if_eq (tgt := 394) hx hb dL_act_386 (by decide) (fun c_45 => absurd c_45 (by decide +kernel)) (fun c_45 => ?_)
        clear c_45
        refine lv_iload hx hb dL_act_389 (lv_at hl 2 rfl) ?_
        refine lv_goto (tgt := 404) hx hb dL_act_391 (by decide) ?_
        refine lv_iload hx hb dL_act_404 (lv_at hl 0 rfl) ?_
        refine lv_iconst (v := nI 4) hx hb dL_act_406 (by decide +kernel) ?_
        refine lv_idiv hx hb dL_act_407 (by decide +kernel) ?_
        refine lv_iload_n hx hb dL_act_408 rfl (lv_at hl 5 rfl) ?_
        refine lv_if_eq (tgt := 417) hx hb dL_act_409 (by decide) (fun c_46 => absurd c_46 (by decide +kernel)) (fun c_46 => ?_)
        clear c_46
        refine lv_iload hx hb dL_act_412 (lv_at hl 0 rfl) ?_
        refine lv_goto (tgt := 432) hx hb dL_act_414 (by decide) ?_
        refine x_callH (k := 6) C hS (l_right l hfl (E := E) (base := base) hI (x := ((lowf (v >>> (nI 8 &&& 31)) (nI 9)) - nI 1)) (y := ((lowf (v >>> (nI 5 &&& 31)) (nI 20)) - nI 2)) (k := ((lowf (v >>> (nI 11 &&& 31)) (nI 12)) - nI 2)) (a := ((v >>> (nI 4 &&& 31)) / nI 4)) (b := (v >>> (nI 4 &&& 31))) al w hR) hH qw_425 qw_0 ⟨by decide +kernel, by decide +kernel, by decide +kernel⟩ qw_424 qw_423 rfl [] rfl hl.1 (Nat.le_of_ble_eq_true rfl) ⟨(Nat.le_of_ble_eq_true rfl), (Nat.le_of_ble_eq_true rfl)⟩ dL_act_432 ⟨(Nat.le_of_ble_eq_true rfl), (Nat.le_of_ble_eq_true rfl)⟩ (fun r H locs hp hS => ?_)
        obtain ⟨rfl, hP⟩ := hp
        have hf : f_act S v = f_right S ((lowf (v >>> (nI 8 &&& 31)) (nI 9)) - nI 1) ((lowf (v >>> (nI 5 &&& 31)) (nI 20)) - nI 2) ((lowf (v >>> (nI 11 &&& 31)) (nI 12)) - nI 2) ((v >>> (nI 4 &&& 31)) / nI 4) (v >>> (nI 4 &&& 31)) := (cif_t hodd).trans (by rw [hs]; rfl)
        rw [← hQ]
        refine x_reti C rfl hS (Nat.le_of_ble_eq_true rfl) (Nat.le_of_ble_eq_true rfl) dL_act_435 ?_
        rw [hpost]
        exact ⟨by rw [hf], by rw [hf]; exact hP⟩
      · skip
        refine lv_tableIn (tgt := 381) (off := 230) hx hb dL_act_151 (by decide +kernel) (by decide +kernel) rfl rfl ?_
        have hs : swk ((lowf v (nI 32))) = 10 := by rw [← hkk]; decide +kernel
        refine lv_aload_n hx hb dL_act_381 rfl (lv_at hl 6 rfl) ?_
        refine lv_iload hx hb dL_act_382 (lv_at hl 3 rfl) ?_
        refine lv_iload_n hx hb dL_act_384 rfl (lv_at hl 4 rfl) ?_
        refine lv_iload_n hx hb dL_act_385 rfl (lv_at hl 5 rfl) ?_
        refine lv_if_eq (tgt := 394) hx hb dL_act_386 (by decide) (fun c_47 => absurd c_47 (by decide +kernel)) (fun c_47 => ?_)
        clear c_47
        refine lv_iload hx hb dL_act_389 (lv_at hl 2 rfl) ?_
        refine lv_goto (tgt := 404) hx hb dL_act_391 (by decide) ?_
        refine lv_iload hx hb dL_act_404 (lv_at hl 0 rfl) ?_
        refine lv_iconst (v := nI 4) hx hb dL_act_406 (by decide +kernel) ?_
        refine lv_idiv hx hb dL_act_407 (by decide +kernel) ?_
        refine lv_iload_n hx hb dL_act_408 rfl (lv_at hl 5 rfl) ?_
        refine lv_if_eq (tgt := 417) hx hb dL_act_409 (by decide) (fun c_48 => absurd c_48 (by decide +kernel)) (fun c_48 => ?_)
        clear c_48
        refine lv_iload hx hb dL_act_412 (lv_at hl 0 rfl) ?_
        refine lv_goto (tgt := 432) hx hb dL_act_414 (by decide) ?_
        refine x_callH (k := 6) C hS (l_right l hfl (E := E) (base := base) hI (x := ((lowf (v >>> (nI 8 &&& 31)) (nI 9)) - nI 1)) (y := ((lowf (v >>> (nI 5 &&& 31)) (nI 20)) - nI 2)) (k := ((lowf (v >>> (nI 11 &&& 31)) (nI 12)) - nI 2)) (a := ((v >>> (nI 4 &&& 31)) / nI 4)) (b := (v >>> (nI 4 &&& 31))) al w hR) hH qw_425 qw_0 ⟨by decide +kernel, by decide +kernel, by decide +kernel⟩ qw_424 qw_423 rfl [] rfl hl.1 (Nat.le_of_ble_eq_true rfl) ⟨(Nat.le_of_ble_eq_true rfl), (Nat.le_of_ble_eq_true rfl)⟩ dL_act_432 ⟨(Nat.le_of_ble_eq_true rfl), (Nat.le_of_ble_eq_true rfl)⟩ (fun r H locs hp hS => ?_)
        obtain ⟨rfl, hP⟩ := hp
        have hf : f_act S v = f_right S ((lowf (v >>> (nI 8 &&& 31)) (nI 9)) - nI 1) ((lowf (v >>> (nI 5 &&& 31)) (nI 20)) - nI 2) ((lowf (v >>> (nI 11 &&& 31)) (nI 12)) - nI 2) ((v >>> (nI 4 &&& 31)) / nI 4) (v >>> (nI 4 &&& 31)) := (cif_t hodd).trans (by rw [hs]; rfl)
        rw [← hQ]
        refine x_reti C rfl hS (Nat.le_of_ble_eq_true rfl) (Nat.le_of_ble_eq_true rfl) dL_act_435 ?_
        rw [hpost]
        exact ⟨by rw [hf], by rw [hf]; exact hP⟩
      · skip
        refine lv_tableIn (tgt := 381) (off := 230) hx hb dL_act_151 (by decide +kernel) (by decide +kernel) rfl rfl ?_
        have hs : swk ((lowf v (nI 32))) = 11 := by rw [← hkk]; decide +kernel
        refine lv_aload_n hx hb dL_act_381 rfl (lv_at hl 6 rfl) ?_
        refine lv_iload hx hb dL_act_382 (lv_at hl 3 rfl) ?_
        refine lv_iload_n hx hb dL_act_384 rfl (lv_at hl 4 rfl) ?_
        refine lv_iload_n hx hb dL_act_385 rfl (lv_at hl 5 rfl) ?_
        refine lv_if_eq (tgt := 394) hx hb dL_act_386 (by decide) (fun c_49 => absurd c_49 (by decide +kernel)) (fun c_49 => ?_)
        clear c_49
        refine lv_iload hx hb dL_act_389 (lv_at hl 2 rfl) ?_
        refine lv_goto (tgt := 404) hx hb dL_act_391 (by decide) ?_
        refine lv_iload hx hb dL_act_404 (lv_at hl 0 rfl) ?_
        refine lv_iconst (v := nI 4) hx hb dL_act_406 (by decide +kernel) ?_
        refine lv_idiv hx hb dL_act_407 (by decide +kernel) ?_
        refine lv_iload_n hx hb dL_act_408 rfl (lv_at hl 5 rfl) ?_
        refine lv_if_eq (tgt := 417) hx hb dL_act_409 (by decide) (fun c_50 => absurd c_50 (by decide +kernel)) (fun c_50 => ?_)
        clear c_50
        refine lv_iload hx hb dL_act_412 (lv_at hl 0 rfl) ?_
        refine lv_goto (tgt := 432) hx hb dL_act_414 (by decide) ?_
        refine x_callH (k := 6) C hS (l_right l hfl (E := E) (base := base) hI (x := ((lowf (v >>> (nI 8 &&& 31)) (nI 9)) - nI 1)) (y := ((lowf (v >>> (nI 5 &&& 31)) (nI 20)) - nI 2)) (k := ((lowf (v >>> (nI 11 &&& 31)) (nI 12)) - nI 2)) (a := ((v >>> (nI 4 &&& 31)) / nI 4)) (b := (v >>> (nI 4 &&& 31))) al w hR) hH qw_425 qw_0 ⟨by decide +kernel, by decide +kernel, by decide +kernel⟩ qw_424 qw_423 rfl [] rfl hl.1 (Nat.le_of_ble_eq_true rfl) ⟨(Nat.le_of_ble_eq_true rfl), (Nat.le_of_ble_eq_true rfl)⟩ dL_act_432 ⟨(Nat.le_of_ble_eq_true rfl), (Nat.le_of_ble_eq_true rfl)⟩ (fun r H locs hp hS => ?_)
        obtain ⟨rfl, hP⟩ := hp
        have hf : f_act S v = f_right S ((lowf (v >>> (nI 8 &&& 31)) (nI 9)) - nI 1) ((lowf (v >>> (nI 5 &&& 31)) (nI 20)) - nI 2) ((lowf (v >>> (nI 11 &&& 31)) (nI 12)) - nI 2) ((v >>> (nI 4 &&& 31)) / nI 4) (v >>> (nI 4 &&& 31)) := (cif_t hodd).trans (by rw [hs]; rfl)
        rw [← hQ]
        refine x_reti C rfl hS (Nat.le_of_ble_eq_true rfl) (Nat.le_of_ble_eq_true rfl) dL_act_435 ?_
        rw [hpost]
        exact ⟨by rw [hf], by rw [hf]; exact hP⟩
      · skip
        refine lv_tableIn (tgt := 436) (off := 285) hx hb dL_act_151 (by decide +kernel) (by decide +kernel) rfl rfl ?_
        have hs : swk ((lowf v (nI 32))) = 12 := by rw [← hkk]; decide +kernel
        refine lv_aload_n hx hb dL_act_436 rfl (lv_at hl 6 rfl) ?_
        refine lv_iload hx hb dL_act_437 (lv_at hl 3 rfl) ?_
        refine lv_iload_n hx hb dL_act_439 rfl (lv_at hl 4 rfl) ?_
        refine x_callH (k := 3) C hS (l_takeBack l hfl (E := E) (base := base) hI (x := ((lowf (v >>> (nI 8 &&& 31)) (nI 9)) - nI 1)) (z := ((lowf (v >>> (nI 5 &&& 31)) (nI 20)) - nI 2)) al w hR) hH qw_452 qw_0 ⟨by decide +kernel, by decide +kernel, by decide +kernel⟩ qw_451 qw_450 rfl [] rfl hl.1 (Nat.le_of_ble_eq_true rfl) ⟨(Nat.le_of_ble_eq_true rfl), (Nat.le_of_ble_eq_true rfl)⟩ dL_act_440 ⟨(Nat.le_of_ble_eq_true rfl), (Nat.le_of_ble_eq_true rfl)⟩ (fun r H locs hp hS => ?_)
        obtain ⟨rfl, hP⟩ := hp
        have hf : f_act S v = f_takeBack S ((lowf (v >>> (nI 8 &&& 31)) (nI 9)) - nI 1) ((lowf (v >>> (nI 5 &&& 31)) (nI 20)) - nI 2) := (cif_t hodd).trans (by rw [hs]; rfl)
        rw [← hQ]
        refine x_reti C rfl hS (Nat.le_of_ble_eq_true rfl) (Nat.le_of_ble_eq_true rfl) dL_act_443 ?_
        rw [hpost]
        exact ⟨by rw [hf], by rw [hf]; exact hP⟩
      · skip
        refine lv_tableIn (tgt := 444) (off := 293) hx hb dL_act_151 (by decide +kernel) (by decide +kernel) rfl rfl ?_
        have hs : swk ((lowf v (nI 32))) = 13 := by rw [← hkk]; decide +kernel
        refine lv_aload_n hx hb dL_act_444 rfl (lv_at hl 6 rfl) ?_
        refine lv_iload_n hx hb dL_act_445 rfl (lv_at hl 4 rfl) ?_
        refine lv_iload hx hb dL_act_446 (lv_at hl 0 rfl) ?_
        refine x_callH (k := 3) C hS (l_seal l hfl (E := E) (base := base) hI (x := ((lowf (v >>> (nI 5 &&& 31)) (nI 20)) - nI 2)) (y := (v >>> (nI 4 &&& 31))) al w hR) hH qw_463 qw_0 ⟨by decide +kernel, by decide +kernel, by decide +kernel⟩ qw_462 qw_461 rfl [] rfl hl.1 (Nat.le_of_ble_eq_true rfl) ⟨(Nat.le_of_ble_eq_true rfl), (Nat.le_of_ble_eq_true rfl)⟩ dL_act_448 ⟨(Nat.le_of_ble_eq_true rfl), (Nat.le_of_ble_eq_true rfl)⟩ (fun r H locs hp hS => ?_)
        obtain ⟨rfl, hP⟩ := hp
        have hf : f_act S v = f_seal S ((lowf (v >>> (nI 5 &&& 31)) (nI 20)) - nI 2) (v >>> (nI 4 &&& 31)) := (cif_t hodd).trans (by rw [hs]; rfl)
        rw [← hQ]
        refine x_reti C rfl hS (Nat.le_of_ble_eq_true rfl) (Nat.le_of_ble_eq_true rfl) dL_act_451 ?_
        rw [hpost]
        exact ⟨by rw [hf], by rw [hf]; exact hP⟩
      · skip
        refine lv_tableIn (tgt := 452) (off := 301) hx hb dL_act_151 (by decide +kernel) (by decide +kernel) rfl rfl ?_
        have hs : swk ((lowf v (nI 32))) = 14 := by rw [← hkk]; decide +kernel
        refine lv_aload_n hx hb dL_act_452 rfl (lv_at hl 6 rfl) ?_
        refine lv_iload_n hx hb dL_act_453 rfl (lv_at hl 5 rfl) ?_
        refine lv_if_eq (tgt := 462) hx hb dL_act_454 (by decide) (fun c_51 => absurd c_51 (by decide +kernel)) (fun c_51 => ?_)
        clear c_51
        refine lv_iload hx hb dL_act_457 (lv_at hl 0 rfl) ?_
        refine lv_goto (tgt := 472) hx hb dL_act_459 (by decide) ?_
        refine x_callH (k := 2) C hS (l_pass l hfl (E := E) (base := base) hI (x := (v >>> (nI 4 &&& 31))) al w hR) hH qw_470 qw_0 ⟨by decide +kernel, by decide +kernel, by decide +kernel⟩ qw_469 qw_468 rfl [] rfl hl.1 (Nat.le_of_ble_eq_true rfl) ⟨(Nat.le_of_ble_eq_true rfl), (Nat.le_of_ble_eq_true rfl)⟩ dL_act_472 ⟨(Nat.le_of_ble_eq_true rfl), (Nat.le_of_ble_eq_true rfl)⟩ (fun r H locs hp hS => ?_)
        obtain ⟨rfl, hP⟩ := hp
        have hf : f_act S v = f_pass S (v >>> (nI 4 &&& 31)) := (cif_t hodd).trans (by rw [hs]; rfl)
        rw [← hQ]
        refine x_reti C rfl hS (Nat.le_of_ble_eq_true rfl) (Nat.le_of_ble_eq_true rfl) dL_act_475 ?_
        rw [hpost]
        exact ⟨by rw [hf], by rw [hf]; exact hP⟩
      · skip
        refine lv_tableIn (tgt := 476) (off := 325) hx hb dL_act_151 (by decide +kernel) (by decide +kernel) rfl rfl ?_
        have hs : swk ((lowf v (nI 32))) = 15 := by rw [← hkk]; decide +kernel
        refine lv_aload_n hx hb dL_act_476 rfl (lv_at hl 6 rfl) ?_
        refine lv_iload hx hb dL_act_477 (lv_at hl 3 rfl) ?_
        refine lv_iload hx hb dL_act_479 (lv_at hl 1 rfl) ?_
        refine lv_iload hx hb dL_act_481 (lv_at hl 2 rfl) ?_
        refine x_callH (k := 4) C hS (l_ask l hfl (E := E) (base := base) hI (x := ((lowf (v >>> (nI 8 &&& 31)) (nI 9)) - nI 1)) (z := (v >>> (nI 9 &&& 31))) (bit := ((lowf (v >>> (nI 11 &&& 31)) (nI 12)) - nI 2)) al w hR) hH qw_478 qw_0 ⟨by decide +kernel, by decide +kernel, by decide +kernel⟩ qw_477 qw_476 rfl [] rfl hl.1 (Nat.le_of_ble_eq_true rfl) ⟨(Nat.le_of_ble_eq_true rfl), (Nat.le_of_ble_eq_true rfl)⟩ dL_act_483 ⟨(Nat.le_of_ble_eq_true rfl), (Nat.le_of_ble_eq_true rfl)⟩ (fun r H locs hp hS => ?_)
        obtain ⟨rfl, hP⟩ := hp
        have hf : f_act S v = f_ask S ((lowf (v >>> (nI 8 &&& 31)) (nI 9)) - nI 1) (v >>> (nI 9 &&& 31)) ((lowf (v >>> (nI 11 &&& 31)) (nI 12)) - nI 2) := (cif_t hodd).trans (by rw [hs]; rfl)
        rw [← hQ]
        refine x_reti C rfl hS (Nat.le_of_ble_eq_true rfl) (Nat.le_of_ble_eq_true rfl) dL_act_486 ?_
        rw [hpost]
        exact ⟨by rw [hf], by rw [hf]; exact hP⟩
      · skip
        refine lv_tableIn (tgt := 476) (off := 325) hx hb dL_act_151 (by decide +kernel) (by decide +kernel) rfl rfl ?_
        have hs : swk ((lowf v (nI 32))) = 16 := by rw [← hkk]; decide +kernel
        refine lv_aload_n hx hb dL_act_476 rfl (lv_at hl 6 rfl) ?_
        refine lv_iload hx hb dL_act_477 (lv_at hl 3 rfl) ?_
        refine lv_iload hx hb dL_act_479 (lv_at hl 1 rfl) ?_
        refine lv_iload hx hb dL_act_481 (lv_at hl 2 rfl) ?_
        refine x_callH (k := 4) C hS (l_ask l hfl (E := E) (base := base) hI (x := ((lowf (v >>> (nI 8 &&& 31)) (nI 9)) - nI 1)) (z := (v >>> (nI 9 &&& 31))) (bit := ((lowf (v >>> (nI 11 &&& 31)) (nI 12)) - nI 2)) al w hR) hH qw_478 qw_0 ⟨by decide +kernel, by decide +kernel, by decide +kernel⟩ qw_477 qw_476 rfl [] rfl hl.1 (Nat.le_of_ble_eq_true rfl) ⟨(Nat.le_of_ble_eq_true rfl), (Nat.le_of_ble_eq_true rfl)⟩ dL_act_483 ⟨(Nat.le_of_ble_eq_true rfl), (Nat.le_of_ble_eq_true rfl)⟩ (fun r H locs hp hS => ?_)
        obtain ⟨rfl, hP⟩ := hp
        have hf : f_act S v = f_ask S ((lowf (v >>> (nI 8 &&& 31)) (nI 9)) - nI 1) (v >>> (nI 9 &&& 31)) ((lowf (v >>> (nI 11 &&& 31)) (nI 12)) - nI 2) := (cif_t hodd).trans (by rw [hs]; rfl)
        rw [← hQ]
        refine x_reti C rfl hS (Nat.le_of_ble_eq_true rfl) (Nat.le_of_ble_eq_true rfl) dL_act_486 ?_
        rw [hpost]
        exact ⟨by rw [hf], by rw [hf]; exact hP⟩
      · skip
        refine lv_tableIn (tgt := 476) (off := 325) hx hb dL_act_151 (by decide +kernel) (by decide +kernel) rfl rfl ?_
        have hs : swk ((lowf v (nI 32))) = 17 := by rw [← hkk]; decide +kernel
        refine lv_aload_n hx hb dL_act_476 rfl (lv_at hl 6 rfl) ?_
        refine lv_iload hx hb dL_act_477 (lv_at hl 3 rfl) ?_
        refine lv_iload hx hb dL_act_479 (lv_at hl 1 rfl) ?_
        refine lv_iload hx hb dL_act_481 (lv_at hl 2 rfl) ?_
        refine x_callH (k := 4) C hS (l_ask l hfl (E := E) (base := base) hI (x := ((lowf (v >>> (nI 8 &&& 31)) (nI 9)) - nI 1)) (z := (v >>> (nI 9 &&& 31))) (bit := ((lowf (v >>> (nI 11 &&& 31)) (nI 12)) - nI 2)) al w hR) hH qw_478 qw_0 ⟨by decide +kernel, by decide +kernel, by decide +kernel⟩ qw_477 qw_476 rfl [] rfl hl.1 (Nat.le_of_ble_eq_true rfl) ⟨(Nat.le_of_ble_eq_true rfl), (Nat.le_of_ble_eq_true rfl)⟩ dL_act_483 ⟨(Nat.le_of_ble_eq_true rfl), (Nat.le_of_ble_eq_true rfl)⟩ (fun r H locs hp hS => ?_)
        obtain ⟨rfl, hP⟩ := hp
        have hf : f_act S v = f_ask S ((lowf (v >>> (nI 8 &&& 31)) (nI 9)) - nI 1) (v >>> (nI 9 &&& 31)) ((lowf (v >>> (nI 11 &&& 31)) (nI 12)) - nI 2) := (cif_t hodd).trans (by rw [hs]; rfl)
        rw [← hQ]
        refine x_reti C rfl hS (Nat.le_of_ble_eq_true rfl) (Nat.le_of_ble_eq_true rfl) dL_act_486 ?_
        rw [hpost]
        exact ⟨by rw [hf], by rw [hf]; exact hP⟩
      · skip
        refine lv_tableIn (tgt := 476) (off := 325) hx hb dL_act_151 (by decide +kernel) (by decide +kernel) rfl rfl ?_
        have hs : swk ((lowf v (nI 32))) = 18 := by rw [← hkk]; decide +kernel
        refine lv_aload_n hx hb dL_act_476 rfl (lv_at hl 6 rfl) ?_
        refine lv_iload hx hb dL_act_477 (lv_at hl 3 rfl) ?_
        refine lv_iload hx hb dL_act_479 (lv_at hl 1 rfl) ?_
        refine lv_iload hx hb dL_act_481 (lv_at hl 2 rfl) ?_
        refine x_callH (k := 4) C hS (l_ask l hfl (E := E) (base := base) hI (x := ((lowf (v >>> (nI 8 &&& 31)) (nI 9)) - nI 1)) (z := (v >>> (nI 9 &&& 31))) (bit := ((lowf (v >>> (nI 11 &&& 31)) (nI 12)) - nI 2)) al w hR) hH qw_478 qw_0 ⟨by decide +kernel, by decide +kernel, by decide +kernel⟩ qw_477 qw_476 rfl [] rfl hl.1 (Nat.le_of_ble_eq_true rfl) ⟨(Nat.le_of_ble_eq_true rfl), (Nat.le_of_ble_eq_true rfl)⟩ dL_act_483 ⟨(Nat.le_of_ble_eq_true rfl), (Nat.le_of_ble_eq_true rfl)⟩ (fun r H locs hp hS => ?_)
        obtain ⟨rfl, hP⟩ := hp
        have hf : f_act S v = f_ask S ((lowf (v >>> (nI 8 &&& 31)) (nI 9)) - nI 1) (v >>> (nI 9 &&& 31)) ((lowf (v >>> (nI 11 &&& 31)) (nI 12)) - nI 2) := (cif_t hodd).trans (by rw [hs]; rfl)
        rw [← hQ]
        refine x_reti C rfl hS (Nat.le_of_ble_eq_true rfl) (Nat.le_of_ble_eq_true rfl) dL_act_486 ?_
        rw [hpost]
        exact ⟨by rw [hf], by rw [hf]; exact hP⟩
      · skip
        refine lv_tableIn (tgt := 476) (off := 325) hx hb dL_act_151 (by decide +kernel) (by decide +kernel) rfl rfl ?_
        have hs : swk ((lowf v (nI 32))) = 19 := by rw [← hkk]; decide +kernel
        refine lv_aload_n hx hb dL_act_476 rfl (lv_at hl 6 rfl) ?_
        refine lv_iload hx hb dL_act_477 (lv_at hl 3 rfl) ?_
        refine lv_iload hx hb dL_act_479 (lv_at hl 1 rfl) ?_
        refine lv_iload hx hb dL_act_481 (lv_at hl 2 rfl) ?_
        refine x_callH (k := 4) C hS (l_ask l hfl (E := E) (base := base) hI (x := ((lowf (v >>> (nI 8 &&& 31)) (nI 9)) - nI 1)) (z := (v >>> (nI 9 &&& 31))) (bit := ((lowf (v >>> (nI 11 &&& 31)) (nI 12)) - nI 2)) al w hR) hH qw_478 qw_0 ⟨by decide +kernel, by decide +kernel, by decide +kernel⟩ qw_477 qw_476 rfl [] rfl hl.1 (Nat.le_of_ble_eq_true rfl) ⟨(Nat.le_of_ble_eq_true rfl), (Nat.le_of_ble_eq_true rfl)⟩ dL_act_483 ⟨(Nat.le_of_ble_eq_true rfl), (Nat.le_of_ble_eq_true rfl)⟩ (fun r H locs hp hS => ?_)
        obtain ⟨rfl, hP⟩ := hp
        have hf : f_act S v = f_ask S ((lowf (v >>> (nI 8 &&& 31)) (nI 9)) - nI 1) (v >>> (nI 9 &&& 31)) ((lowf (v >>> (nI 11 &&& 31)) (nI 12)) - nI 2) := (cif_t hodd).trans (by rw [hs]; rfl)
        rw [← hQ]
        refine x_reti C rfl hS (Nat.le_of_ble_eq_true rfl) (Nat.le_of_ble_eq_true rfl) dL_act_486 ?_
        rw [hpost]
        exact ⟨by rw [hf], by rw [hf]; exact hP⟩
      · skip
        refine lv_tableIn (tgt := 476) (off := 325) hx hb dL_act_151 (by decide +kernel) (by decide +kernel) rfl rfl ?_
        have hs : swk ((lowf v (nI 32))) = 20 := by rw [← hkk]; decide +kernel
        refine lv_aload_n hx hb dL_act_476 rfl (lv_at hl 6 rfl) ?_
        refine lv_iload hx hb dL_act_477 (lv_at hl 3 rfl) ?_
        refine lv_iload hx hb dL_act_479 (lv_at hl 1 rfl) ?_
        refine lv_iload hx hb dL_act_481 (lv_at hl 2 rfl) ?_
        refine x_callH (k := 4) C hS (l_ask l hfl (E := E) (base := base) hI (x := ((lowf (v >>> (nI 8 &&& 31)) (nI 9)) - nI 1)) (z := (v >>> (nI 9 &&& 31))) (bit := ((lowf (v >>> (nI 11 &&& 31)) (nI 12)) - nI 2)) al w hR) hH qw_478 qw_0 ⟨by decide +kernel, by decide +kernel, by decide +kernel⟩ qw_477 qw_476 rfl [] rfl hl.1 (Nat.le_of_ble_eq_true rfl) ⟨(Nat.le_of_ble_eq_true rfl), (Nat.le_of_ble_eq_true rfl)⟩ dL_act_483 ⟨(Nat.le_of_ble_eq_true rfl), (Nat.le_of_ble_eq_true rfl)⟩ (fun r H locs hp hS => ?_)
        obtain ⟨rfl, hP⟩ := hp
        have hf : f_act S v = f_ask S ((lowf (v >>> (nI 8 &&& 31)) (nI 9)) - nI 1) (v >>> (nI 9 &&& 31)) ((lowf (v >>> (nI 11 &&& 31)) (nI 12)) - nI 2) := (cif_t hodd).trans (by rw [hs]; rfl)
        rw [← hQ]
        refine x_reti C rfl hS (Nat.le_of_ble_eq_true rfl) (Nat.le_of_ble_eq_true rfl) dL_act_486 ?_
        rw [hpost]
        exact ⟨by rw [hf], by rw [hf]; exact hP⟩
      · skip
        refine lv_tableIn (tgt := 476) (off := 325) hx hb dL_act_151 (by decide +kernel) (by decide +kernel) rfl rfl ?_
        have hs : swk ((lowf v (nI 32))) = 21 := by rw [← hkk]; decide +kernel
        refine lv_aload_n hx hb dL_act_476 rfl (lv_at hl 6 rfl) ?_
        refine lv_iload hx hb dL_act_477 (lv_at hl 3 rfl) ?_
        refine lv_iload hx hb dL_act_479 (lv_at hl 1 rfl) ?_
        refine lv_iload hx hb dL_act_481 (lv_at hl 2 rfl) ?_
        refine x_callH (k := 4) C hS (l_ask l hfl (E := E) (base := base) hI (x := ((lowf (v >>> (nI 8 &&& 31)) (nI 9)) - nI 1)) (z := (v >>> (nI 9 &&& 31))) (bit := ((lowf (v >>> (nI 11 &&& 31)) (nI 12)) - nI 2)) al w hR) hH qw_478 qw_0 ⟨by decide +kernel, by decide +kernel, by decide +kernel⟩ qw_477 qw_476 rfl [] rfl hl.1 (Nat.le_of_ble_eq_true rfl) ⟨(Nat.le_of_ble_eq_true rfl), (Nat.le_of_ble_eq_true rfl)⟩ dL_act_483 ⟨(Nat.le_of_ble_eq_true rfl), (Nat.le_of_ble_eq_true rfl)⟩ (fun r H locs hp hS => ?_)
        obtain ⟨rfl, hP⟩ := hp
        have hf : f_act S v = f_ask S ((lowf (v >>> (nI 8 &&& 31)) (nI 9)) - nI 1) (v >>> (nI 9 &&& 31)) ((lowf (v >>> (nI 11 &&& 31)) (nI 12)) - nI 2) := (cif_t hodd).trans (by rw [hs]; rfl)
        rw [← hQ]
        refine x_reti C rfl hS (Nat.le_of_ble_eq_true rfl) (Nat.le_of_ble_eq_true rfl) dL_act_486 ?_
        rw [hpost]
        exact ⟨by rw [hf], by rw [hf]; exact hP⟩
      · skip
        refine lv_tableIn (tgt := 476) (off := 325) hx hb dL_act_151 (by decide +kernel) (by decide +kernel) rfl rfl ?_
        have hs : swk ((lowf v (nI 32))) = 22 := by rw [← hkk]; decide +kernel
        refine lv_aload_n hx hb dL_act_476 rfl (lv_at hl 6 rfl) ?_
        refine lv_iload hx hb dL_act_477 (lv_at hl 3 rfl) ?_
        refine lv_iload hx hb dL_act_479 (lv_at hl 1 rfl) ?_
        refine lv_iload hx hb dL_act_481 (lv_at hl 2 rfl) ?_
        refine x_callH (k := 4) C hS (l_ask l hfl (E := E) (base := base) hI (x := ((lowf (v >>> (nI 8 &&& 31)) (nI 9)) - nI 1)) (z := (v >>> (nI 9 &&& 31))) (bit := ((lowf (v >>> (nI 11 &&& 31)) (nI 12)) - nI 2)) al w hR) hH qw_478 qw_0 ⟨by decide +kernel, by decide +kernel, by decide +kernel⟩ qw_477 qw_476 rfl [] rfl hl.1 (Nat.le_of_ble_eq_true rfl) ⟨(Nat.le_of_ble_eq_true rfl), (Nat.le_of_ble_eq_true rfl)⟩ dL_act_483 ⟨(Nat.le_of_ble_eq_true rfl), (Nat.le_of_ble_eq_true rfl)⟩ (fun r H locs hp hS => ?_)
        obtain ⟨rfl, hP⟩ := hp
        have hf : f_act S v = f_ask S ((lowf (v >>> (nI 8 &&& 31)) (nI 9)) - nI 1) (v >>> (nI 9 &&& 31)) ((lowf (v >>> (nI 11 &&& 31)) (nI 12)) - nI 2) := (cif_t hodd).trans (by rw [hs]; rfl)
        rw [← hQ]
        refine x_reti C rfl hS (Nat.le_of_ble_eq_true rfl) (Nat.le_of_ble_eq_true rfl) dL_act_486 ?_
        rw [hpost]
        exact ⟨by rw [hf], by rw [hf]; exact hP⟩
      · skip
        refine lv_tableIn (tgt := 487) (off := 336) hx hb dL_act_151 (by decide +kernel) (by decide +kernel) rfl rfl ?_
        have hs : swk ((lowf v (nI 32))) = 23 := by rw [← hkk]; decide +kernel
        refine lv_aload_n hx hb dL_act_487 rfl (lv_at hl 6 rfl) ?_
        refine lv_iload hx hb dL_act_488 (lv_at hl 3 rfl) ?_
        refine lv_iload hx hb dL_act_490 (lv_at hl 1 rfl) ?_
        refine lv_iload hx hb dL_act_492 (lv_at hl 2 rfl) ?_
        refine x_callH (k := 4) C hS (l_cost l hfl (E := E) (base := base) hI (x := ((lowf (v >>> (nI 8 &&& 31)) (nI 9)) - nI 1)) (z := (v >>> (nI 9 &&& 31))) (bit := ((lowf (v >>> (nI 11 &&& 31)) (nI 12)) - nI 2)) al w hR) hH qw_576 qw_0 ⟨by decide +kernel, by decide +kernel, by decide +kernel⟩ qw_575 qw_574 rfl [] rfl hl.1 (Nat.le_of_ble_eq_true rfl) ⟨(Nat.le_of_ble_eq_true rfl), (Nat.le_of_ble_eq_true rfl)⟩ dL_act_494 ⟨(Nat.le_of_ble_eq_true rfl), (Nat.le_of_ble_eq_true rfl)⟩ (fun r H locs hp hS => ?_)
        obtain ⟨rfl, hP⟩ := hp
        have hf : f_act S v = f_cost S ((lowf (v >>> (nI 8 &&& 31)) (nI 9)) - nI 1) (v >>> (nI 9 &&& 31)) ((lowf (v >>> (nI 11 &&& 31)) (nI 12)) - nI 2) := (cif_t hodd).trans (by rw [hs]; rfl)
        rw [← hQ]
        refine x_reti C rfl hS (Nat.le_of_ble_eq_true rfl) (Nat.le_of_ble_eq_true rfl) dL_act_497 ?_
        rw [hpost]
        exact ⟨by rw [hf], by rw [hf]; exact hP⟩
      · skip
        refine lv_tableIn (tgt := 498) (off := 347) hx hb dL_act_151 (by decide +kernel) (by decide +kernel) rfl rfl ?_
        have hs : swk ((lowf v (nI 32))) = 24 := by rw [← hkk]; decide +kernel
        refine lv_aload_n hx hb dL_act_498 rfl (lv_at hl 6 rfl) ?_
        refine lv_iload_n hx hb dL_act_499 rfl (lv_at hl 5 rfl) ?_
        refine lv_if_eq (tgt := 508) hx hb dL_act_500 (by decide) (fun c_52 => absurd c_52 (by decide +kernel)) (fun c_52 => ?_)
        clear c_52
        refine lv_iload hx hb dL_act_503 (lv_at hl 0 rfl) ?_
        refine lv_goto (tgt := 516) hx hb dL_act_505 (by decide) ?_
        refine lv_iload_n hx hb dL_act_516 rfl (lv_at hl 5 rfl) ?_
        refine lv_if_eq (tgt := 525) hx hb dL_act_517 (by decide) (fun c_53 => absurd c_53 (by decide +kernel)) (fun c_53 => ?_)
        clear c_53
        refine lv_iload hx hb dL_act_520 (lv_at hl 2 rfl) ?_
        refine lv_goto (tgt := 534) hx hb dL_act_522 (by decide) ?_
        refine x_callH (k := 3) C hS (l_answer l hfl (E := E) (base := base) hI (x := (v >>> (nI 4 &&& 31))) (z := ((lowf (v >>> (nI 11 &&& 31)) (nI 12)) - nI 2)) al w hR) hH qw_583 qw_0 ⟨by decide +kernel, by decide +kernel, by decide +kernel⟩ qw_582 qw_581 rfl [] rfl hl.1 (Nat.le_of_ble_eq_true rfl) ⟨(Nat.le_of_ble_eq_true rfl), (Nat.le_of_ble_eq_true rfl)⟩ dL_act_534 ⟨(Nat.le_of_ble_eq_true rfl), (Nat.le_of_ble_eq_true rfl)⟩ (fun r H locs hp hS => ?_)
        obtain ⟨rfl, hP⟩ := hp
        have hf : f_act S v = f_answer S (v >>> (nI 4 &&& 31)) ((lowf (v >>> (nI 11 &&& 31)) (nI 12)) - nI 2) := (cif_t hodd).trans (by rw [hs]; rfl)
        rw [← hQ]
        refine x_reti C rfl hS (Nat.le_of_ble_eq_true rfl) (Nat.le_of_ble_eq_true rfl) dL_act_537 ?_
        rw [hpost]
        exact ⟨by rw [hf], by rw [hf]; exact hP⟩
      · skip
        refine lv_tableIn (tgt := 538) (off := 387) hx hb dL_act_151 (by decide +kernel) (by decide +kernel) rfl rfl ?_
        have hs : swk ((lowf v (nI 32))) = 25 := by rw [← hkk]; decide +kernel
        refine lv_aload_n hx hb dL_act_538 rfl (lv_at hl 6 rfl) ?_
        refine lv_iload hx hb dL_act_539 (lv_at hl 3 rfl) ?_
        refine x_callH (k := 2) C hS (l_spent l hfl (E := E) (base := base) hI (x := ((lowf (v >>> (nI 8 &&& 31)) (nI 9)) - nI 1)) al w hR) hH qw_595 qw_0 ⟨by decide +kernel, by decide +kernel, by decide +kernel⟩ qw_594 qw_593 rfl [] rfl hl.1 (Nat.le_of_ble_eq_true rfl) ⟨(Nat.le_of_ble_eq_true rfl), (Nat.le_of_ble_eq_true rfl)⟩ dL_act_541 ⟨(Nat.le_of_ble_eq_true rfl), (Nat.le_of_ble_eq_true rfl)⟩ (fun r H locs hp hS => ?_)
        obtain ⟨rfl, hP⟩ := hp
        have hf : f_act S v = f_spent S ((lowf (v >>> (nI 8 &&& 31)) (nI 9)) - nI 1) := (cif_t hodd).trans (by rw [hs]; rfl)
        rw [← hQ]
        refine x_reti C rfl hS (Nat.le_of_ble_eq_true rfl) (Nat.le_of_ble_eq_true rfl) dL_act_544 ?_
        rw [hpost]
        exact ⟨by rw [hf], by rw [hf]; exact hP⟩
      · skip
        refine lv_tableIn (tgt := 545) (off := 394) hx hb dL_act_151 (by decide +kernel) (by decide +kernel) rfl rfl ?_
        have hs : swk ((lowf v (nI 32))) = 26 := by rw [← hkk]; decide +kernel
        refine lv_aload_n hx hb dL_act_545 rfl (lv_at hl 6 rfl) ?_
        refine lv_iload hx hb dL_act_546 (lv_at hl 3 rfl) ?_
        refine lv_iload_n hx hb dL_act_548 rfl (lv_at hl 4 rfl) ?_
        refine x_callH (k := 3) C hS (l_finds l hfl (E := E) (base := base) hI (x := ((lowf (v >>> (nI 8 &&& 31)) (nI 9)) - nI 1)) (z := ((lowf (v >>> (nI 5 &&& 31)) (nI 20)) - nI 2)) al w hR) hH qw_602 qw_0 ⟨by decide +kernel, by decide +kernel, by decide +kernel⟩ qw_601 qw_600 rfl [] rfl hl.1 (Nat.le_of_ble_eq_true rfl) ⟨(Nat.le_of_ble_eq_true rfl), (Nat.le_of_ble_eq_true rfl)⟩ dL_act_549 ⟨(Nat.le_of_ble_eq_true rfl), (Nat.le_of_ble_eq_true rfl)⟩ (fun r H locs hp hS => ?_)
        obtain ⟨rfl, hP⟩ := hp
        have hf : f_act S v = f_finds S ((lowf (v >>> (nI 8 &&& 31)) (nI 9)) - nI 1) ((lowf (v >>> (nI 5 &&& 31)) (nI 20)) - nI 2) := (cif_t hodd).trans (by rw [hs]; rfl)
        rw [← hQ]
        refine x_reti C rfl hS (Nat.le_of_ble_eq_true rfl) (Nat.le_of_ble_eq_true rfl) dL_act_552 ?_
        rw [hpost]
        exact ⟨by rw [hf], by rw [hf]; exact hP⟩
      · skip
        refine lv_tableIn (tgt := 553) (off := 402) hx hb dL_act_151 (by decide +kernel) (by decide +kernel) rfl rfl ?_
        have hs : swk ((lowf v (nI 32))) = 27 := by rw [← hkk]; decide +kernel
        refine lv_aload_n hx hb dL_act_553 rfl (lv_at hl 6 rfl) ?_
        refine lv_iload_n hx hb dL_act_554 rfl (lv_at hl 5 rfl) ?_
        refine lv_if_eq (tgt := 563) hx hb dL_act_555 (by decide) (fun c_54 => absurd c_54 (by decide +kernel)) (fun c_54 => ?_)
        clear c_54
        refine lv_iload hx hb dL_act_558 (lv_at hl 1 rfl) ?_
        refine lv_goto (tgt := 572) hx hb dL_act_560 (by decide) ?_
        refine lv_iload_n hx hb dL_act_572 rfl (lv_at hl 4 rfl) ?_
        refine x_callH (k := 3) C hS (l_together l hfl (E := E) (base := base) hI (xs := (v >>> (nI 9 &&& 31))) (z := ((lowf (v >>> (nI 5 &&& 31)) (nI 20)) - nI 2)) al w hR) hH qw_610 qw_0 ⟨by decide +kernel, by decide +kernel, by decide +kernel⟩ qw_609 qw_608 rfl [] rfl hl.1 (Nat.le_of_ble_eq_true rfl) ⟨(Nat.le_of_ble_eq_true rfl), (Nat.le_of_ble_eq_true rfl)⟩ dL_act_573 ⟨(Nat.le_of_ble_eq_true rfl), (Nat.le_of_ble_eq_true rfl)⟩ (fun r H locs hp hS => ?_)
        obtain ⟨rfl, hP⟩ := hp
        have hf : f_act S v = f_together S (v >>> (nI 9 &&& 31)) ((lowf (v >>> (nI 5 &&& 31)) (nI 20)) - nI 2) := (cif_t hodd).trans (by rw [hs]; rfl)
        rw [← hQ]
        refine x_reti C rfl hS (Nat.le_of_ble_eq_true rfl) (Nat.le_of_ble_eq_true rfl) dL_act_576 ?_
        rw [hpost]
        exact ⟨by rw [hf], by rw [hf]; exact hP⟩
      · skip
        refine lv_tableIn (tgt := 577) (off := 426) hx hb dL_act_151 (by decide +kernel) (by decide +kernel) rfl rfl ?_
        have hs : swk ((lowf v (nI 32))) = 28 := by rw [← hkk]; decide +kernel
        refine lv_aload_n hx hb dL_act_577 rfl (lv_at hl 6 rfl) ?_
        refine lv_iload hx hb dL_act_578 (lv_at hl 3 rfl) ?_
        refine lv_iload_n hx hb dL_act_580 rfl (lv_at hl 4 rfl) ?_
        refine x_callH (k := 3) C hS (l_rightTo l hfl (E := E) (base := base) hI (x := ((lowf (v >>> (nI 8 &&& 31)) (nI 9)) - nI 1)) (z := ((lowf (v >>> (nI 5 &&& 31)) (nI 20)) - nI 2)) al w hR) hH qw_627 qw_0 ⟨by decide +kernel, by decide +kernel, by decide +kernel⟩ qw_626 qw_625 rfl [] rfl hl.1 (Nat.le_of_ble_eq_true rfl) ⟨(Nat.le_of_ble_eq_true rfl), (Nat.le_of_ble_eq_true rfl)⟩ dL_act_581 ⟨(Nat.le_of_ble_eq_true rfl), (Nat.le_of_ble_eq_true rfl)⟩ (fun r H locs hp hS => ?_)
        obtain ⟨rfl, hP⟩ := hp
        have hf : f_act S v = f_rightTo S ((lowf (v >>> (nI 8 &&& 31)) (nI 9)) - nI 1) ((lowf (v >>> (nI 5 &&& 31)) (nI 20)) - nI 2) := (cif_t hodd).trans (by rw [hs]; rfl)
        rw [← hQ]
        refine x_reti C rfl hS (Nat.le_of_ble_eq_true rfl) (Nat.le_of_ble_eq_true rfl) dL_act_584 ?_
        rw [hpost]
        exact ⟨by rw [hf], by rw [hf]; exact hP⟩
      · skip
        refine lv_tableIn (tgt := 585) (off := 434) hx hb dL_act_151 (by decide +kernel) (by decide +kernel) rfl rfl ?_
        have hs : swk ((lowf v (nI 32))) = 29 := by rw [← hkk]; decide +kernel
        refine lv_aload_n hx hb dL_act_585 rfl (lv_at hl 6 rfl) ?_
        refine lv_iload_n hx hb dL_act_586 rfl (lv_at hl 4 rfl) ?_
        refine x_callH (k := 2) C hS (l_isSealed l hfl (E := E) (base := base) hI (x := ((lowf (v >>> (nI 5 &&& 31)) (nI 20)) - nI 2)) al w hR) hH qw_634 qw_0 ⟨by decide +kernel, by decide +kernel, by decide +kernel⟩ qw_633 qw_632 rfl [] rfl hl.1 (Nat.le_of_ble_eq_true rfl) ⟨(Nat.le_of_ble_eq_true rfl), (Nat.le_of_ble_eq_true rfl)⟩ dL_act_587 ⟨(Nat.le_of_ble_eq_true rfl), (Nat.le_of_ble_eq_true rfl)⟩ (fun r H locs hp hS => ?_)
        obtain ⟨rfl, hP⟩ := hp
        have hf : f_act S v = f_isSealed S ((lowf (v >>> (nI 5 &&& 31)) (nI 20)) - nI 2) := (cif_t hodd).trans (by rw [hs]; rfl)
        rw [← hQ]
        refine x_reti C rfl hS (Nat.le_of_ble_eq_true rfl) (Nat.le_of_ble_eq_true rfl) dL_act_590 ?_
        rw [hpost]
        exact ⟨by rw [hf], by rw [hf]; exact hP⟩
