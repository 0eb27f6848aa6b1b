/-! what asks changes nothing -/
theorem fS_spent {S : AS} {x : Int32} : (f_spent S x).2 = S := by unfold f_spent cif g_spent bad; split <;> rfl
theorem fS_finds {S : AS} {x z : Int32} : (f_finds S x z).2 = S := by unfold f_finds cif g_finds bad; split <;> rfl
theorem fS_count {S : AS} {x z : Int32} : (f_count S x z).2 = S := by unfold f_count cif g_count bad; split <;> rfl
theorem fS_rightTo {S : AS} {x z : Int32} : (f_rightTo S x z).2 = S := by unfold f_rightTo cif g_rightTo bad; split <;> rfl
theorem fS_isSealed {S : AS} {x : Int32} : (f_isSealed S x).2 = S := by unfold f_isSealed cif g_isSealed bad; split <;> rfl
theorem fS_answer {S : AS} {x z : Int32} : (f_answer S x z).2 = S := by unfold f_answer cif g_answer bad; split <;> rfl
theorem fS_cost {S : AS} {x z bit : Int32} : (f_cost S x z bit).2 = S := by unfold f_cost cif g_cost bad; split <;> rfl
theorem fS_together {S : AS} {xs z : Int32} : (f_together S xs z).2 = S := by unfold f_together cif g_together bad; split <;> rfl
set_option maxHeartbeats 8000000 in
set_option maxRecDepth 100000 in
theorem l_areAlike (l : Launch) (hfl : l.stackTraces = false) {E : xE} {base A0 A1 : Nat} {S : AS} (hI : IV S) {v : Int32} : xMet l yL_areAlike cL_areAlike 5 (some (.boolean)) ({ frames := 10, cells := 72, slots := 432, locals := 167 } : Room) E base [.ref A0, .ref A1, .int v] (DR E base A0 A1 S S) (fun r H => r = some (.int (nI 1)) ∧ DR E base A0 A1 S S H) := by
  refine xMet.of (by decide +kernel) "DataroomLaw" rfl (Nat.le_of_ble_eq_true rfl) ?_
  intro p9 e9 s m9 below meth c9 ls C hin hD hS hl
  have hx := C.hx
  have hb := C.hb
  have hl : lv_has ls 5 [(0, .ref A0), (1, .ref A1), (2, .int v)] := hl
  obtain ⟨post, hpost⟩ : ∃ zz9 : Option Value → Heap → Prop, zz9 = (fun r H => r = some (.int (nI 1)) ∧ DR E base A0 A1 S S H) := ⟨_, rfl⟩
  rw [← hpost]
  generalize hQ : (MQ below (xQ base post) ([.ref A0, .ref A1, .int v] : List Value).toArray s 72 432 (xA base)) = Q
  refine lv_iconst (v := nI 1) hx hb dL_areAlike_0 (by decide +kernel) ?_
  refine lv_istore_n (lv' := [(3, .int (nI 1)), (0, .ref A0), (1, .ref A1), (2, .int v)]) hx hb dL_areAlike_1 rfl hl (by decide) rfl (fun ls hl => ?_)
  refine lv_iconst (v := nI 0) hx hb dL_areAlike_2 (by decide +kernel) ?_
  refine lv_istore (lv' := [(4, .int (nI 0)), (3, .int (nI 1)), (0, .ref A0), (1, .ref A1), (2, .int v)]) hx hb dL_areAlike_3 hl (by decide) rfl (fun ls hl => ?_)
  refine lv_iload hx hb dL_areAlike_5 (lv_at hl 0 rfl) ?_
  refine lv_iconst (v := nI 4) hx hb dL_areAlike_7 (by decide +kernel) ?_
  refine lv_icmp_ge (tgt := 175) hx hb dL_areAlike_8 (by decide) (fun c_1 => absurd c_1 (by decide +kernel)) (fun c_1 => ?_)
  clear c_1
  refine lv_iload_n hx hb dL_areAlike_11 rfl (lv_at hl 1 rfl) ?_
  refine lv_if_eq (tgt := 175) hx hb dL_areAlike_12 (by decide) (fun c_2 => absurd c_2 (by decide +kernel)) (fun c_2 => ?_)
  clear c_2
  refine lv_aload_n hx hb dL_areAlike_15 rfl (lv_at hl 2 rfl) ?_
  refine lv_iload hx hb dL_areAlike_16 (lv_at hl 0 rfl) ?_
  refine x_callH (k := 2) C hS (HR.two (A1 := A1) (T := S) (l_spent l hfl (E := E) (base := base) hI (x := nI 0))) hD qw_595 qw_0 ⟨by decide +kernel, by decide +kernel, by decide +kernel⟩ qw_594 qw_593 rfl [] rfl hl.1 (Nat.le_of_ble_eq_true rfl) ⟨(Nat.le_of_ble_eq_true rfl), (Nat.le_of_ble_eq_true rfl)⟩ dL_areAlike_18 ⟨(Nat.le_of_ble_eq_true rfl), (Nat.le_of_ble_eq_true rfl)⟩ (fun r H locs hp hS => ?_)
  obtain ⟨rfl, hD⟩ := hp
  rw [fS_spent] at hD
  refine lv_aload_n hx hb dL_areAlike_21 rfl (lv_at hl 3 rfl) ?_
  refine lv_iload hx hb dL_areAlike_22 (lv_at hl 0 rfl) ?_
  refine x_callH (k := 2) C hS (HR.two' (A0 := A0) (S := S) (l_spent l hfl (E := E) (base := base) hI (x := nI 0))) hD qw_595 qw_0 ⟨by decide +kernel, by decide +kernel, by decide +kernel⟩ qw_594 qw_593 rfl [.int ((f_spent S (nI 0)).1)] rfl hl.1 (Nat.le_of_ble_eq_true rfl) ⟨(Nat.le_of_ble_eq_true rfl), (Nat.le_of_ble_eq_true rfl)⟩ dL_areAlike_24 ⟨(Nat.le_of_ble_eq_true rfl), (Nat.le_of_ble_eq_true rfl)⟩ (fun r H locs hp hS => ?_)
  obtain ⟨rfl, hD⟩ := hp
  rw [fS_spent] at hD
  refine lv_icmp_ne (tgt := 167) hx hb dL_areAlike_27 (by decide) (fun c => absurd rfl c) (fun _ => ?_)
  refine lv_aload_n hx hb dL_areAlike_30 rfl (lv_at hl 2 rfl) ?_
  refine lv_iload hx hb dL_areAlike_31 (lv_at hl 0 rfl) ?_
  refine lv_iload_n hx hb dL_areAlike_33 rfl (lv_at hl 4 rfl) ?_
  refine lv_iconst (v := nI 5) hx hb dL_areAlike_34 (by decide +kernel) ?_
  refine x_callS C hS (c_low l (E := E) (base := base) (v := v) (n := nI 5) (by decide +kernel)) hD kL_low qw_113 qw_112 rfl [.int (nI 0), .ref A0] rfl hl.1 (Nat.le_of_ble_eq_true rfl) ⟨(Nat.le_of_ble_eq_true rfl), (Nat.le_of_ble_eq_true rfl)⟩ dL_areAlike_35 ⟨(Nat.le_of_ble_eq_true rfl), (Nat.le_of_ble_eq_true rfl)⟩ (fun r H locs hp hS => ?_)
  obtain ⟨rfl, hD⟩ := hp
  refine x_callH (k := 3) C hS (HR.two (A1 := A1) (T := S) (l_finds l hfl (E := E) (base := base) hI (x := nI 0) (z := (lowf v (nI 5))))) hD qw_602 qw_0 ⟨by decide +kernel, by decide +kernel, by decide +kernel⟩ qw_601 qw_600 rfl [] rfl hl.1 (Nat.le_of_ble_eq_true rfl) ⟨(Nat.le_of_ble_eq_true rfl), (Nat.le_of_ble_eq_true rfl)⟩ dL_areAlike_38 ⟨(Nat.le_of_ble_eq_true rfl), (Nat.le_of_ble_eq_true rfl)⟩ (fun r H locs hp hS => ?_)
  obtain ⟨rfl, hD⟩ := hp
  rw [fS_finds] at hD
  refine lv_aload_n hx hb dL_areAlike_41 rfl (lv_at hl 3 rfl) ?_
  refine lv_iload hx hb dL_areAlike_42 (lv_at hl 0 rfl) ?_
  refine lv_iload_n hx hb dL_areAlike_44 rfl (lv_at hl 4 rfl) ?_
  refine lv_iconst (v := nI 5) hx hb dL_areAlike_45 (by decide +kernel) ?_
  refine x_callS C hS (c_low l (E := E) (base := base) (v := v) (n := nI 5) (by decide +kernel)) hD kL_low qw_113 qw_112 rfl [.int (nI 0), .ref A1, .int ((f_finds S (nI 0) (lowf v (nI 5))).1)] rfl hl.1 (Nat.le_of_ble_eq_true rfl) ⟨(Nat.le_of_ble_eq_true rfl), (Nat.le_of_ble_eq_true rfl)⟩ dL_areAlike_46 ⟨(Nat.le_of_ble_eq_true rfl), (Nat.le_of_ble_eq_true rfl)⟩ (fun r H locs hp hS => ?_)
  obtain ⟨rfl, hD⟩ := hp
  refine x_callH (k := 3) C hS (HR.two' (A0 := A0) (S := S) (l_finds l hfl (E := E) (base := base) hI (x := nI 0) (z := (lowf v (nI 5))))) hD qw_602 qw_0 ⟨by decide +kernel, by decide +kernel, by decide +kernel⟩ qw_601 qw_600 rfl [.int ((f_finds S (nI 0) (lowf v (nI 5))).1)] rfl hl.1 (Nat.le_of_ble_eq_true rfl) ⟨(Nat.le_of_ble_eq_true rfl), (Nat.le_of_ble_eq_true rfl)⟩ dL_areAlike_49 ⟨(Nat.le_of_ble_eq_true rfl), (Nat.le_of_ble_eq_true rfl)⟩ (fun r H locs hp hS => ?_)
  obtain ⟨rfl, hD⟩ := hp
  rw [fS_finds] at hD
  refine lv_icmp_ne (tgt := 167) hx hb dL_areAlike_52 (by decide) (fun c => absurd rfl c) (fun _ => ?_)
  refine lv_aload_n hx hb dL_areAlike_55 rfl (lv_at hl 2 rfl) ?_
  refine lv_iload hx hb dL_areAlike_56 (lv_at hl 0 rfl) ?_
  refine lv_iload_n hx hb dL_areAlike_58 rfl (lv_at hl 4 rfl) ?_
  refine lv_iconst (v := nI 2) hx hb dL_areAlike_59 (by decide +kernel) ?_
  refine lv_ishr hx hb dL_areAlike_60 ?_
  refine lv_bipush (v := nI 6) hx hb dL_areAlike_61 (by decide +kernel) ?_
  refine x_callS C hS (c_low l (E := E) (base := base) (v := (v >>> (nI 2 &&& 31))) (n := nI 6) (by decide +kernel)) hD kL_low qw_113 qw_112 rfl [.int (nI 0), .ref A0] rfl hl.1 (Nat.le_of_ble_eq_true rfl) ⟨(Nat.le_of_ble_eq_true rfl), (Nat.le_of_ble_eq_true rfl)⟩ dL_areAlike_63 ⟨(Nat.le_of_ble_eq_true rfl), (Nat.le_of_ble_eq_true rfl)⟩ (fun r H locs hp hS => ?_)
  obtain ⟨rfl, hD⟩ := hp
  refine x_callH (k := 3) C hS (HR.two (A1 := A1) (T := S) (l_count l hfl (E := E) (base := base) hI (x := nI 0) (z := (lowf (v >>> (nI 2 &&& 31)) (nI 6))))) hD qw_641 qw_0 ⟨by decide +kernel, by decide +kernel, by decide +kernel⟩ qw_640 qw_639 rfl [] rfl hl.1 (Nat.le_of_ble_eq_true rfl) ⟨(Nat.le_of_ble_eq_true rfl), (Nat.le_of_ble_eq_true rfl)⟩ dL_areAlike_66 ⟨(Nat.le_of_ble_eq_true rfl), (Nat.le_of_ble_eq_true rfl)⟩ (fun r H locs hp hS => ?_)
  obtain ⟨rfl, hD⟩ := hp
  rw [fS_count] at hD
  refine lv_aload_n hx hb dL_areAlike_69 rfl (lv_at hl 3 rfl) ?_
  refine lv_iload hx hb dL_areAlike_70 (lv_at hl 0 rfl) ?_
  refine lv_iload_n hx hb dL_areAlike_72 rfl (lv_at hl 4 rfl) ?_
  refine lv_iconst (v := nI 2) hx hb dL_areAlike_73 (by decide +kernel) ?_
  refine lv_ishr hx hb dL_areAlike_74 ?_
  refine lv_bipush (v := nI 6) hx hb dL_areAlike_75 (by decide +kernel) ?_
  refine x_callS C hS (c_low l (E := E) (base := base) (v := (v >>> (nI 2 &&& 31))) (n := nI 6) (by decide +kernel)) hD kL_low qw_113 qw_112 rfl [.int (nI 0), .ref A1, .int ((f_count S (nI 0) (lowf (v >>> (nI 2 &&& 31)) (nI 6))).1)] rfl hl.1 (Nat.le_of_ble_eq_true rfl) ⟨(Nat.le_of_ble_eq_true rfl), (Nat.le_of_ble_eq_true rfl)⟩ dL_areAlike_77 ⟨(Nat.le_of_ble_eq_true rfl), (Nat.le_of_ble_eq_true rfl)⟩ (fun r H locs hp hS => ?_)
  obtain ⟨rfl, hD⟩ := hp
  refine x_callH (k := 3) C hS (HR.two' (A0 := A0) (S := S) (l_count l hfl (E := E) (base := base) hI (x := nI 0) (z := (lowf (v >>> (nI 2 &&& 31)) (nI 6))))) hD qw_641 qw_0 ⟨by decide +kernel, by decide +kernel, by decide +kernel⟩ qw_640 qw_639 rfl [.int ((f_count S (nI 0) (lowf (v >>> (nI 2 &&& 31)) (nI 6))).1)] rfl hl.1 (Nat.le_of_ble_eq_true rfl) ⟨(Nat.le_of_ble_eq_true rfl), (Nat.le_of_ble_eq_true rfl)⟩ dL_areAlike_80 ⟨(Nat.le_of_ble_eq_true rfl), (Nat.le_of_ble_eq_true rfl)⟩ (fun r H locs hp hS => ?_)
  obtain ⟨rfl, hD⟩ := hp
  rw [fS_count] at hD
  refine lv_icmp_ne (tgt := 167) hx hb dL_areAlike_83 (by decide) (fun c => absurd rfl c) (fun _ => ?_)
  refine lv_aload_n hx hb dL_areAlike_86 rfl (lv_at hl 2 rfl) ?_
  refine lv_iload hx hb dL_areAlike_87 (lv_at hl 0 rfl) ?_
  refine lv_iload_n hx hb dL_areAlike_89 rfl (lv_at hl 4 rfl) ?_
  refine lv_iconst (v := nI 4) hx hb dL_areAlike_90 (by decide +kernel) ?_
  refine lv_ishr hx hb dL_areAlike_91 ?_
  refine lv_iconst (v := nI 5) hx hb dL_areAlike_92 (by decide +kernel) ?_
  refine x_callS C hS (c_low l (E := E) (base := base) (v := (v >>> (nI 4 &&& 31))) (n := nI 5) (by decide +kernel)) hD kL_low qw_113 qw_112 rfl [.int (nI 0), .ref A0] rfl hl.1 (Nat.le_of_ble_eq_true rfl) ⟨(Nat.le_of_ble_eq_true rfl), (Nat.le_of_ble_eq_true rfl)⟩ dL_areAlike_93 ⟨(Nat.le_of_ble_eq_true rfl), (Nat.le_of_ble_eq_true rfl)⟩ (fun r H locs hp hS => ?_)
  obtain ⟨rfl, hD⟩ := hp
  refine x_callH (k := 3) C hS (HR.two (A1 := A1) (T := S) (l_rightTo l hfl (E := E) (base := base) hI (x := nI 0) (z := (lowf (v >>> (nI 4 &&& 31)) (nI 5))))) hD qw_627 qw_0 ⟨by decide +kernel, by decide +kernel, by decide +kernel⟩ qw_626 qw_625 rfl [] rfl hl.1 (Nat.le_of_ble_eq_true rfl) ⟨(Nat.le_of_ble_eq_true rfl), (Nat.le_of_ble_eq_true rfl)⟩ dL_areAlike_96 ⟨(Nat.le_of_ble_eq_true rfl), (Nat.le_of_ble_eq_true rfl)⟩ (fun r H locs hp hS => ?_)
  obtain ⟨rfl, hD⟩ := hp
  rw [fS_rightTo] at hD
  refine lv_aload_n hx hb dL_areAlike_99 rfl (lv_at hl 3 rfl) ?_
  refine lv_iload hx hb dL_areAlike_100 (lv_at hl 0 rfl) ?_
  refine lv_iload_n hx hb dL_areAlike_102 rfl (lv_at hl 4 rfl) ?_
  refine lv_iconst (v := nI 4) hx hb dL_areAlike_103 (by decide +kernel) ?_
  refine lv_ishr hx hb dL_areAlike_104 ?_
  refine lv_iconst (v := nI 5) hx hb dL_areAlike_105 (by decide +kernel) ?_
  refine x_callS C hS (c_low l (E := E) (base := base) (v := (v >>> (nI 4 &&& 31))) (n := nI 5) (by decide +kernel)) hD kL_low qw_113 qw_112 rfl [.int (nI 0), .ref A1, .int ((f_rightTo S (nI 0) (lowf (v >>> (nI 4 &&& 31)) (nI 5))).1)] rfl hl.1 (Nat.le_of_ble_eq_true rfl) ⟨(Nat.le_of_ble_eq_true rfl), (Nat.le_of_ble_eq_true rfl)⟩ dL_areAlike_106 ⟨(Nat.le_of_ble_eq_true rfl), (Nat.le_of_ble_eq_true rfl)⟩ (fun r H locs hp hS => ?_)
  obtain ⟨rfl, hD⟩ := hp
  refine x_callH (k := 3) C hS (HR.two' (A0 := A0) (S := S) (l_rightTo l hfl (E := E) (base := base) hI (x := nI 0) (z := (lowf (v >>> (nI 4 &&& 31)) (nI 5))))) hD qw_627 qw_0 ⟨by decide +kernel, by decide +kernel, by decide +kernel⟩ qw_626 qw_625 rfl [.int ((f_rightTo S (nI 0) (lowf (v >>> (nI 4 &&& 31)) (nI 5))).1)] rfl hl.1 (Nat.le_of_ble_eq_true rfl) ⟨(Nat.le_of_ble_eq_true rfl), (Nat.le_of_ble_eq_true rfl)⟩ dL_areAlike_109 ⟨(Nat.le_of_ble_eq_true rfl), (Nat.le_of_ble_eq_true rfl)⟩ (fun r H locs hp hS => ?_)
  obtain ⟨rfl, hD⟩ := hp
  rw [fS_rightTo] at hD
  refine lv_icmp_ne (tgt := 167) hx hb dL_areAlike_112 (by decide) (fun c => absurd rfl c) (fun _ => ?_)
  refine lv_aload_n hx hb dL_areAlike_115 rfl (lv_at hl 2 rfl) ?_
  refine lv_iload hx hb dL_areAlike_116 (lv_at hl 0 rfl) ?_
  refine x_callH (k := 2) C hS (HR.two (A1 := A1) (T := S) (l_isSealed l hfl (E := E) (base := base) hI (x := nI 0))) hD qw_634 qw_0 ⟨by decide +kernel, by decide +kernel, by decide +kernel⟩ qw_633 qw_632 rfl [] rfl hl.1 (Nat.le_of_ble_eq_true rfl) ⟨(Nat.le_of_ble_eq_true rfl), (Nat.le_of_ble_eq_true rfl)⟩ dL_areAlike_118 ⟨(Nat.le_of_ble_eq_true rfl), (Nat.le_of_ble_eq_true rfl)⟩ (fun r H locs hp hS => ?_)
  obtain ⟨rfl, hD⟩ := hp
  rw [fS_isSealed] at hD
  refine lv_aload_n hx hb dL_areAlike_121 rfl (lv_at hl 3 rfl) ?_
  refine lv_iload hx hb dL_areAlike_122 (lv_at hl 0 rfl) ?_
  refine x_callH (k := 2) C hS (HR.two' (A0 := A0) (S := S) (l_isSealed l hfl (E := E) (base := base) hI (x := nI 0))) hD qw_634 qw_0 ⟨by decide +kernel, by decide +kernel, by decide +kernel⟩ qw_633 qw_632 rfl [.int ((f_isSealed S (nI 0)).1)] rfl hl.1 (Nat.le_of_ble_eq_true rfl) ⟨(Nat.le_of_ble_eq_true rfl), (Nat.le_of_ble_eq_true rfl)⟩ dL_areAlike_124 ⟨(Nat.le_of_ble_eq_true rfl), (Nat.le_of_ble_eq_true rfl)⟩ (fun r H locs hp hS => ?_)
  obtain ⟨rfl, hD⟩ := hp
  rw [fS_isSealed] at hD
  refine lv_icmp_ne (tgt := 167) hx hb dL_areAlike_127 (by decide) (fun c => absurd rfl c) (fun _ => ?_)
  refine lv_aload_n hx hb dL_areAlike_130 rfl (lv_at hl 2 rfl) ?_
  refine lv_iload hx hb dL_areAlike_131 (lv_at hl 0 rfl) ?_
  refine lv_iload_n hx hb dL_areAlike_133 rfl (lv_at hl 4 rfl) ?_
  refine lv_bipush (v := nI 6) hx hb dL_areAlike_134 (by decide +kernel) ?_
  refine lv_ishr hx hb dL_areAlike_136 ?_
  refine lv_bipush (v := nI 6) hx hb dL_areAlike_137 (by decide +kernel) ?_
  refine x_callS C hS (c_low l (E := E) (base := base) (v := (v >>> (nI 6 &&& 31))) (n := nI 6) (by decide +kernel)) hD kL_low qw_113 qw_112 rfl [.int (nI 0), .ref A0] rfl hl.1 (Nat.le_of_ble_eq_true rfl) ⟨(Nat.le_of_ble_eq_true rfl), (Nat.le_of_ble_eq_true rfl)⟩ dL_areAlike_139 ⟨(Nat.le_of_ble_eq_true rfl), (Nat.le_of_ble_eq_true rfl)⟩ (fun r H locs hp hS => ?_)
  obtain ⟨rfl, hD⟩ := hp
  refine x_callH (k := 3) C hS (HR.two (A1 := A1) (T := S) (l_answer l hfl (E := E) (base := base) hI (x := nI 0) (z := (lowf (v >>> (nI 6 &&& 31)) (nI 6))))) hD qw_583 qw_0 ⟨by decide +kernel, by decide +kernel, by decide +kernel⟩ qw_582 qw_581 rfl [] rfl hl.1 (Nat.le_of_ble_eq_true rfl) ⟨(Nat.le_of_ble_eq_true rfl), (Nat.le_of_ble_eq_true rfl)⟩ dL_areAlike_142 ⟨(Nat.le_of_ble_eq_true rfl), (Nat.le_of_ble_eq_true rfl)⟩ (fun r H locs hp hS => ?_)
  obtain ⟨rfl, hD⟩ := hp
  rw [fS_answer] at hD
  refine lv_aload_n hx hb dL_areAlike_145 rfl (lv_at hl 3 rfl) ?_
  refine lv_iload hx hb dL_areAlike_146 (lv_at hl 0 rfl) ?_
  refine lv_iload_n hx hb dL_areAlike_148 rfl (lv_at hl 4 rfl) ?_
  refine lv_bipush (v := nI 6) hx hb dL_areAlike_149 (by decide +kernel) ?_
  refine lv_ishr hx hb dL_areAlike_151 ?_
  refine lv_bipush (v := nI 6) hx hb dL_areAlike_152 (by decide +kernel) ?_
  refine x_callS C hS (c_low l (E := E) (base := base) (v := (v >>> (nI 6 &&& 31))) (n := nI 6) (by decide +kernel)) hD kL_low qw_113 qw_112 rfl [.int (nI 0), .ref A1, .int ((f_answer S (nI 0) (lowf (v >>> (nI 6 &&& 31)) (nI 6))).1)] rfl hl.1 (Nat.le_of_ble_eq_true rfl) ⟨(Nat.le_of_ble_eq_true rfl), (Nat.le_of_ble_eq_true rfl)⟩ dL_areAlike_154 ⟨(Nat.le_of_ble_eq_true rfl), (Nat.le_of_ble_eq_true rfl)⟩ (fun r H locs hp hS => ?_)
  obtain ⟨rfl, hD⟩ := hp
  refine x_callH (k := 3) C hS (HR.two' (A0 := A0) (S := S) (l_answer l hfl (E := E) (base := base) hI (x := nI 0) (z := (lowf (v >>> (nI 6 &&& 31)) (nI 6))))) hD qw_583 qw_0 ⟨by decide +kernel, by decide +kernel, by decide +kernel⟩ qw_582 qw_581 rfl [.int ((f_answer S (nI 0) (lowf (v >>> (nI 6 &&& 31)) (nI 6))).1)] rfl hl.1 (Nat.le_of_ble_eq_true rfl) ⟨(Nat.le_of_ble_eq_true rfl), (Nat.le_of_ble_eq_true rfl)⟩ dL_areAlike_157 ⟨(Nat.le_of_ble_eq_true rfl), (Nat.le_of_ble_eq_true rfl)⟩ (fun r H locs hp hS => ?_)
  obtain ⟨rfl, hD⟩ := hp
  rw [fS_answer] at hD
  refine lv_icmp_ne (tgt := 167) hx hb dL_areAlike_160 (by decide) (fun c => absurd rfl c) (fun _ => ?_)
  refine lv_iconst (v := nI 1) hx hb dL_areAlike_163 (by decide +kernel) ?_
  refine lv_goto (tgt := 168) hx hb dL_areAlike_164 (by decide) ?_
  refine lv_istore_n (lv' := [(3, .int (nI 1)), (4, .int (nI 0)), (0, .ref A0), (1, .ref A1), (2, .int v)]) hx hb dL_areAlike_168 rfl hl (by decide) rfl (fun ls hl => ?_)
  refine lv_iinc (v := nI 1) (lv' := [(4, .int (nI 1)), (3, .int (nI 1)), (0, .ref A0), (1, .ref A1), (2, .int v)]) hx hb dL_areAlike_169 hl (k := 1) rfl (by decide +kernel) (by decide) rfl (fun ls hl => ?_)
  refine lv_goto (tgt := 5) hx hb dL_areAlike_172 (by decide) ?_
  refine lv_iload hx hb dL_areAlike_5 (lv_at hl 0 rfl) ?_
  refine lv_iconst (v := nI 4) hx hb dL_areAlike_7 (by decide +kernel) ?_
  refine lv_icmp_ge (tgt := 175) hx hb dL_areAlike_8 (by decide) (fun c_3 => absurd c_3 (by decide +kernel)) (fun c_3 => ?_)
  clear c_3
  refine lv_iload_n hx hb dL_areAlike_11 rfl (lv_at hl 1 rfl) ?_
  refine lv_if_eq (tgt := 175) hx hb dL_areAlike_12 (by decide) (fun c_4 => absurd c_4 (by decide +kernel)) (fun c_4 => ?_)
  clear c_4
  refine lv_aload_n hx hb dL_areAlike_15 rfl (lv_at hl 2 rfl) ?_
  refine lv_iload hx hb dL_areAlike_16 (lv_at hl 0 rfl) ?_
  refine x_callH (k := 2) C hS (HR.two (A1 := A1) (T := S) (l_spent l hfl (E := E) (base := base) hI (x := nI 1))) hD qw_595 qw_0 ⟨by decide +kernel, by decide +kernel, by decide +kernel⟩ qw_594 qw_593 rfl [] rfl hl.1 (Nat.le_of_ble_eq_true rfl) ⟨(Nat.le_of_ble_eq_true rfl), (Nat.le_of_ble_eq_true rfl)⟩ dL_areAlike_18 ⟨(Nat.le_of_ble_eq_true rfl), (Nat.le_of_ble_eq_true rfl)⟩ (fun r H locs hp hS => ?_)
  obtain ⟨rfl, hD⟩ := hp
  rw [fS_spent] at hD
  refine lv_aload_n hx hb dL_areAlike_21 rfl (lv_at hl 3 rfl) ?_
  refine lv_iload hx hb dL_areAlike_22 (lv_at hl 0 rfl) ?_
  refine x_callH (k := 2) C hS (HR.two' (A0 := A0) (S := S) (l_spent l hfl (E := E) (base := base) hI (x := nI 1))) hD qw_595 qw_0 ⟨by decide +kernel, by decide +kernel, by decide +kernel⟩ qw_594 qw_593 rfl [.int ((f_spent S (nI 1)).1)] rfl hl.1 (Nat.le_of_ble_eq_true rfl) ⟨(Nat.le_of_ble_eq_true rfl), (Nat.le_of_ble_eq_true rfl)⟩ dL_areAlike_24 ⟨(Nat.le_of_ble_eq_true rfl), (Nat.le_of_ble_eq_true rfl)⟩ (fun r H locs hp hS => ?_)
  obtain ⟨rfl, hD⟩ := hp
  rw [fS_spent] at hD
  refine lv_icmp_ne (tgt := 167) hx hb dL_areAlike_27 (by decide) (fun c => absurd rfl c) (fun _ => ?_)
  refine lv_aload_n hx hb dL_areAlike_30 rfl (lv_at hl 2 rfl) ?_
  refine lv_iload hx hb dL_areAlike_31 (lv_at hl 0 rfl) ?_
  refine lv_iload_n hx hb dL_areAlike_33 rfl (lv_at hl 4 rfl) ?_
  refine lv_iconst (v := nI 5) hx hb dL_areAlike_34 (by decide +kernel) ?_
  refine x_callS C hS (c_low l (E := E) (base := base) (v := v) (n := nI 5) (by decide +kernel)) hD kL_low qw_113 qw_112 rfl [.int (nI 1), .ref A0] rfl hl.1 (Nat.le_of_ble_eq_true rfl) ⟨(Nat.le_of_ble_eq_true rfl), (Nat.le_of_ble_eq_true rfl)⟩ dL_areAlike_35 ⟨(Nat.le_of_ble_eq_true rfl), (Nat.le_of_ble_eq_true rfl)⟩ (fun r H locs hp hS => ?_)
  obtain ⟨rfl, hD⟩ := hp
  refine x_callH (k := 3) C hS (HR.two (A1 := A1) (T := S) (l_finds l hfl (E := E) (base := base) hI (x := nI 1) (z := (lowf v (nI 5))))) hD qw_602 qw_0 ⟨by decide +kernel, by decide +kernel, by decide +kernel⟩ qw_601 qw_600 rfl [] rfl hl.1 (Nat.le_of_ble_eq_true rfl) ⟨(Nat.le_of_ble_eq_true rfl), (Nat.le_of_ble_eq_true rfl)⟩ dL_areAlike_38 ⟨(Nat.le_of_ble_eq_true rfl), (Nat.le_of_ble_eq_true rfl)⟩ (fun r H locs hp hS => ?_)
  obtain ⟨rfl, hD⟩ := hp
  rw [fS_finds] at hD
  refine lv_aload_n hx hb dL_areAlike_41 rfl (lv_at hl 3 rfl) ?_
  refine lv_iload hx hb dL_areAlike_42 (lv_at hl 0 rfl) ?_
  refine lv_iload_n hx hb dL_areAlike_44 rfl (lv_at hl 4 rfl) ?_
  refine lv_iconst (v := nI 5) hx hb dL_areAlike_45 (by decide +kernel) ?_
  refine x_callS C hS (c_low l (E := E) (base := base) (v := v) (n := nI 5) (by decide +kernel)) hD kL_low qw_113 qw_112 rfl [.int (nI 1), .ref A1, .int ((f_finds S (nI 1) (lowf v (nI 5))).1)] rfl hl.1 (Nat.le_of_ble_eq_true rfl) ⟨(Nat.le_of_ble_eq_true rfl), (Nat.le_of_ble_eq_true rfl)⟩ dL_areAlike_46 ⟨(Nat.le_of_ble_eq_true rfl), (Nat.le_of_ble_eq_true rfl)⟩ (fun r H locs hp hS => ?_)
  obtain ⟨rfl, hD⟩ := hp
  refine x_callH (k := 3) C hS (HR.two' (A0 := A0) (S := S) (l_finds l hfl (E := E) (base := base) hI (x := nI 1) (z := (lowf v (nI 5))))) hD qw_602 qw_0 ⟨by decide +kernel, by decide +kernel, by decide +kernel⟩ qw_601 qw_600 rfl [.int ((f_finds S (nI 1) (lowf v (nI 5))).1)] rfl hl.1 (Nat.le_of_ble_eq_true rfl) ⟨(Nat.le_of_ble_eq_true rfl), (Nat.le_of_ble_eq_true rfl)⟩ dL_areAlike_49 ⟨(Nat.le_of_ble_eq_true rfl), (Nat.le_of_ble_eq_true rfl)⟩ (fun r H locs hp hS => ?_)
  obtain ⟨rfl, hD⟩ := hp
  rw [fS_finds] at hD
  refine lv_icmp_ne (tgt := 167) hx hb dL_areAlike_52 (by decide) (fun c => absurd rfl c) (fun _ => ?_)
  refine lv_aload_n hx hb dL_areAlike_55 rfl (lv_at hl 2 rfl) ?_
  refine lv_iload hx hb dL_areAlike_56 (lv_at hl 0 rfl) ?_
  refine lv_iload_n hx hb dL_areAlike_58 rfl (lv_at hl 4 rfl) ?_
  refine lv_iconst (v := nI 2) hx hb dL_areAlike_59 (by decide +kernel) ?_
  refine lv_ishr hx hb dL_areAlike_60 ?_
  refine lv_bipush (v := nI 6) hx hb dL_areAlike_61 (by decide +kernel) ?_
  refine x_callS C hS (c_low l (E := E) (base := base) (v := (v >>> (nI 2 &&& 31))) (n := nI 6) (by decide +kernel)) hD kL_low qw_113 qw_112 rfl [.int (nI 1), .ref A0] rfl hl.1 (Nat.le_of_ble_eq_true rfl) ⟨(Nat.le_of_ble_eq_true rfl), (Nat.le_of_ble_eq_true rfl)⟩ dL_areAlike_63 ⟨(Nat.le_of_ble_eq_true rfl), (Nat.le_of_ble_eq_true rfl)⟩ (fun r H locs hp hS => ?_)
  obtain ⟨rfl, hD⟩ := hp
  refine x_callH (k := 3) C hS (HR.two (A1 := A1) (T := S) (l_count l hfl (E := E) (base := base) hI (x := nI 1) (z := (lowf (v >>> (nI 2 &&& 31)) (nI 6))))) hD qw_641 qw_0 ⟨by decide +kernel, by decide +kernel, by decide +kernel⟩ qw_640 qw_639 rfl [] rfl hl.1 (Nat.le_of_ble_eq_true rfl) ⟨(Nat.le_of_ble_eq_true rfl), (Nat.le_of_ble_eq_true rfl)⟩ dL_areAlike_66 ⟨(Nat.le_of_ble_eq_true rfl), (Nat.le_of_ble_eq_true rfl)⟩ (fun r H locs hp hS => ?_)
  obtain ⟨rfl, hD⟩ := hp
  rw [fS_count] at hD
  refine lv_aload_n hx hb dL_areAlike_69 rfl (lv_at hl 3 rfl) ?_
  refine lv_iload hx hb dL_areAlike_70 (lv_at hl 0 rfl) ?_
  refine lv_iload_n hx hb dL_areAlike_72 rfl (lv_at hl 4 rfl) ?_
  refine lv_iconst (v := nI 2) hx hb dL_areAlike_73 (by decide +kernel) ?_
  refine lv_ishr hx hb dL_areAlike_74 ?_
  refine lv_bipush (v := nI 6) hx hb dL_areAlike_75 (by decide +kernel) ?_
  refine x_callS C hS (c_low l (E := E) (base := base) (v := (v >>> (nI 2 &&& 31))) (n := nI 6) (by decide +kernel)) hD kL_low qw_113 qw_112 rfl [.int (nI 1), .ref A1, .int ((f_count S (nI 1) (lowf (v >>> (nI 2 &&& 31)) (nI 6))).1)] rfl hl.1 (Nat.le_of_ble_eq_true rfl) ⟨(Nat.le_of_ble_eq_true rfl), (Nat.le_of_ble_eq_true rfl)⟩ dL_areAlike_77 ⟨(Nat.le_of_ble_eq_true rfl), (Nat.le_of_ble_eq_true rfl)⟩ (fun r H locs hp hS => ?_)
  obtain ⟨rfl, hD⟩ := hp
  refine x_callH (k := 3) C hS (HR.two' (A0 := A0) (S := S) (l_count l hfl (E := E) (base := base) hI (x := nI 1) (z := (lowf (v >>> (nI 2 &&& 31)) (nI 6))))) hD qw_641 qw_0 ⟨by decide +kernel, by decide +kernel, by decide +kernel⟩ qw_640 qw_639 rfl [.int ((f_count S (nI 1) (lowf (v >>> (nI 2 &&& 31)) (nI 6))).1)] rfl hl.1 (Nat.le_of_ble_eq_true rfl) ⟨(Nat.le_of_ble_eq_true rfl), (Nat.le_of_ble_eq_true rfl)⟩ dL_areAlike_80 ⟨(Nat.le_of_ble_eq_true rfl), (Nat.le_of_ble_eq_true rfl)⟩ (fun r H locs hp hS => ?_)
  obtain ⟨rfl, hD⟩ := hp
  rw [fS_count] at hD
  refine lv_icmp_ne (tgt := 167) hx hb dL_areAlike_83 (by decide) (fun c => absurd rfl c) (fun _ => ?_)
  refine lv_aload_n hx hb dL_areAlike_86 rfl (lv_at hl 2 rfl) ?_
  refine lv_iload hx hb dL_areAlike_87 (lv_at hl 0 rfl) ?_
  refine lv_iload_n hx hb dL_areAlike_89 rfl (lv_at hl 4 rfl) ?_
  refine lv_iconst (v := nI 4) hx hb dL_areAlike_90 (by decide +kernel) ?_
  refine lv_ishr hx hb dL_areAlike_91 ?_
  refine lv_iconst (v := nI 5) hx hb dL_areAlike_92 (by decide +kernel) ?_
  refine x_callS C hS (c_low l (E := E) (base := base) (v := (v >>> (nI 4 &&& 31))) (n := nI 5) (by decide +kernel)) hD kL_low qw_113 qw_112 rfl [.int (nI 1), .ref A0] rfl hl.1 (Nat.le_of_ble_eq_true rfl) ⟨(Nat.le_of_ble_eq_true rfl), (Nat.le_of_ble_eq_true rfl)⟩ dL_areAlike_93 ⟨(Nat.le_of_ble_eq_true rfl), (Nat.le_of_ble_eq_true rfl)⟩ (fun r H locs hp hS => ?_)
  obtain ⟨rfl, hD⟩ := hp
  refine x_callH (k := 3) C hS (HR.two (A1 := A1) (T := S) (l_rightTo l hfl (E := E) (base := base) hI (x := nI 1) (z := (lowf (v >>> (nI 4 &&& 31)) (nI 5))))) hD qw_627 qw_0 ⟨by decide +kernel, by decide +kernel, by decide +kernel⟩ qw_626 qw_625 rfl [] rfl hl.1 (Nat.le_of_ble_eq_true rfl) ⟨(Nat.le_of_ble_eq_true rfl), (Nat.le_of_ble_eq_true rfl)⟩ dL_areAlike_96 ⟨(Nat.le_of_ble_eq_true rfl), (Nat.le_of_ble_eq_true rfl)⟩ (fun r H locs hp hS => ?_)
  obtain ⟨rfl, hD⟩ := hp
  rw [fS_rightTo] at hD
  refine lv_aload_n hx hb dL_areAlike_99 rfl (lv_at hl 3 rfl) ?_
  refine lv_iload hx hb dL_areAlike_100 (lv_at hl 0 rfl) ?_
  refine lv_iload_n hx hb dL_areAlike_102 rfl (lv_at hl 4 rfl) ?_
  refine lv_iconst (v := nI 4) hx hb dL_areAlike_103 (by decide +kernel) ?_
  refine lv_ishr hx hb dL_areAlike_104 ?_
  refine lv_iconst (v := nI 5) hx hb dL_areAlike_105 (by decide +kernel) ?_
  refine x_callS C hS (c_low l (E := E) (base := base) (v := (v >>> (nI 4 &&& 31))) (n := nI 5) (by decide +kernel)) hD kL_low qw_113 qw_112 rfl [.int (nI 1), .ref A1, .int ((f_rightTo S (nI 1) (lowf (v >>> (nI 4 &&& 31)) (nI 5))).1)] rfl hl.1 (Nat.le_of_ble_eq_true rfl) ⟨(Nat.le_of_ble_eq_true rfl), (Nat.le_of_ble_eq_true rfl)⟩ dL_areAlike_106 ⟨(Nat.le_of_ble_eq_true rfl), (Nat.le_of_ble_eq_true rfl)⟩ (fun r H locs hp hS => ?_)
  obtain ⟨rfl, hD⟩ := hp
  refine x_callH (k := 3) C hS (HR.two' (A0 := A0) (S := S) (l_rightTo l hfl (E := E) (base := base) hI (x := nI 1) (z := (lowf (v >>> (nI 4 &&& 31)) (nI 5))))) hD qw_627 qw_0 ⟨by decide +kernel, by decide +kernel, by decide +kernel⟩ qw_626 qw_625 rfl [.int ((f_rightTo S (nI 1) (lowf (v >>> (nI 4 &&& 31)) (nI 5))).1)] rfl hl.1 (Nat.le_of_ble_eq_true rfl) ⟨(Nat.le_of_ble_eq_true rfl), (Nat.le_of_ble_eq_true rfl)⟩ dL_areAlike_109 ⟨(Nat.le_of_ble_eq_true rfl), (Nat.le_of_ble_eq_true rfl)⟩ (fun r H locs hp hS => ?_)
  obtain ⟨rfl, hD⟩ := hp
  rw [fS_rightTo] at hD
  refine lv_icmp_ne (tgt := 167) hx hb dL_areAlike_112 (by decide) (fun c => absurd rfl c) (fun _ => ?_)
  refine lv_aload_n hx hb dL_areAlike_115 rfl (lv_at hl 2 rfl) ?_
  refine lv_iload hx hb dL_areAlike_116 (lv_at hl 0 rfl) ?_
  refine x_callH (k := 2) C hS (HR.two (A1 := A1) (T := S) (l_isSealed l hfl (E := E) (base := base) hI (x := nI 1))) hD qw_634 qw_0 ⟨by decide +kernel, by decide +kernel, by decide +kernel⟩ qw_633 qw_632 rfl [] rfl hl.1 (Nat.le_of_ble_eq_true rfl) ⟨(Nat.le_of_ble_eq_true rfl), (Nat.le_of_ble_eq_true rfl)⟩ dL_areAlike_118 ⟨(Nat.le_of_ble_eq_true rfl), (Nat.le_of_ble_eq_true rfl)⟩ (fun r H locs hp hS => ?_)
  obtain ⟨rfl, hD⟩ := hp
  rw [fS_isSealed] at hD
  refine lv_aload_n hx hb dL_areAlike_121 rfl (lv_at hl 3 rfl) ?_
  refine lv_iload hx hb dL_areAlike_122 (lv_at hl 0 rfl) ?_
  refine x_callH (k := 2) C hS (HR.two' (A0 := A0) (S := S) (l_isSealed l hfl (E := E) (base := base) hI (x := nI 1))) hD qw_634 qw_0 ⟨by decide +kernel, by decide +kernel, by decide +kernel⟩ qw_633 qw_632 rfl [.int ((f_isSealed S (nI 1)).1)] rfl hl.1 (Nat.le_of_ble_eq_true rfl) ⟨(Nat.le_of_ble_eq_true rfl), (Nat.le_of_ble_eq_true rfl)⟩ dL_areAlike_124 ⟨(Nat.le_of_ble_eq_true rfl), (Nat.le_of_ble_eq_true rfl)⟩ (fun r H locs hp hS => ?_)
  obtain ⟨rfl, hD⟩ := hp
  rw [fS_isSealed] at hD
  refine lv_icmp_ne (tgt := 167) hx hb dL_areAlike_127 (by decide) (fun c => absurd rfl c) (fun _ => ?_)
  refine lv_aload_n hx hb dL_areAlike_130 rfl (lv_at hl 2 rfl) ?_
  refine lv_iload hx hb dL_areAlike_131 (lv_at hl 0 rfl) ?_
  refine lv_iload_n hx hb dL_areAlike_133 rfl (lv_at hl 4 rfl) ?_
  refine lv_bipush (v := nI 6) hx hb dL_areAlike_134 (by decide +kernel) ?_
  refine lv_ishr hx hb dL_areAlike_136 ?_
  refine lv_bipush (v := nI 6) hx hb dL_areAlike_137 (by decide +kernel) ?_
  refine x_callS C hS (c_low l (E := E) (base := base) (v := (v >>> (nI 6 &&& 31))) (n := nI 6) (by decide +kernel)) hD kL_low qw_113 qw_112 rfl [.int (nI 1), .ref A0] rfl hl.1 (Nat.le_of_ble_eq_true rfl) ⟨(Nat.le_of_ble_eq_true rfl), (Nat.le_of_ble_eq_true rfl)⟩ dL_areAlike_139 ⟨(Nat.le_of_ble_eq_true rfl), (Nat.le_of_ble_eq_true rfl)⟩ (fun r H locs hp hS => ?_)
  obtain ⟨rfl, hD⟩ := hp
  refine x_callH (k := 3) C hS (HR.two (A1 := A1) (T := S) (l_answer l hfl (E := E) (base := base) hI (x := nI 1) (z := (lowf (v >>> (nI 6 &&& 31)) (nI 6))))) hD qw_583 qw_0 ⟨by decide +kernel, by decide +kernel, by decide +kernel⟩ qw_582 qw_581 rfl [] rfl hl.1 (Nat.le_of_ble_eq_true rfl) ⟨(Nat.le_of_ble_eq_true rfl), (Nat.le_of_ble_eq_true rfl)⟩ dL_areAlike_142 ⟨(Nat.le_of_ble_eq_true rfl), (Nat.le_of_ble_eq_true rfl)⟩ (fun r H locs hp hS => ?_)
  obtain ⟨rfl, hD⟩ := hp
  rw [fS_answer] at hD
  refine lv_aload_n hx hb dL_areAlike_145 rfl (lv_at hl 3 rfl) ?_
  refine lv_iload hx hb dL_areAlike_146 (lv_at hl 0 rfl) ?_
  refine lv_iload_n hx hb dL_areAlike_148 rfl (lv_at hl 4 rfl) ?_
  refine lv_bipush (v := nI 6) hx hb dL_areAlike_149 (by decide +kernel) ?_
  refine lv_ishr hx hb dL_areAlike_151 ?_
  refine lv_bipush (v := nI 6) hx hb dL_areAlike_152 (by decide +kernel) ?_
  refine x_callS C hS (c_low l (E := E) (base := base) (v := (v >>> (nI 6 &&& 31))) (n := nI 6) (by decide +kernel)) hD kL_low qw_113 qw_112 rfl [.int (nI 1), .ref A1, .int ((f_answer S (nI 1) (lowf (v >>> (nI 6 &&& 31)) (nI 6))).1)] rfl hl.1 (Nat.le_of_ble_eq_true rfl) ⟨(Nat.le_of_ble_eq_true rfl), (Nat.le_of_ble_eq_true rfl)⟩ dL_areAlike_154 ⟨(Nat.le_of_ble_eq_true rfl), (Nat.le_of_ble_eq_true rfl)⟩ (fun r H locs hp hS => ?_)
  obtain ⟨rfl, hD⟩ := hp
  refine x_callH (k := 3) C hS (HR.two' (A0 := A0) (S := S) (l_answer l hfl (E := E) (base := base) hI (x := nI 1) (z := (lowf (v >>> (nI 6 &&& 31)) (nI 6))))) hD qw_583 qw_0 ⟨by decide +kernel, by decide +kernel, by decide +kernel⟩ qw_582 qw_581 rfl [.int ((f_answer S (nI 1) (lowf (v >>> (nI 6 &&& 31)) (nI 6))).1)] rfl hl.1 (Nat.le_of_ble_eq_true rfl) ⟨(Nat.le_of_ble_eq_true rfl), (Nat.le_of_ble_eq_true rfl)⟩ dL_areAlike_157 ⟨(Nat.le_of_ble_eq_true rfl), (Nat.le_of_ble_eq_true rfl)⟩ (fun r H locs hp hS => ?_)
  obtain ⟨rfl, hD⟩ := hp
  rw [fS_answer] at hD
  refine lv_icmp_ne (tgt := 167) hx hb dL_areAlike_160 (by decide) (fun c => absurd rfl c) (fun _ => ?_)
  refine lv_iconst (v := nI 1) hx hb dL_areAlike_163 (by decide +kernel) ?_
  refine lv_goto (tgt := 168) hx hb dL_areAlike_164 (by decide) ?_
  refine lv_istore_n (lv' := [(3, .int (nI 1)), (4, .int (nI 1)), (0, .ref A0), (1, .ref A1), (2, .int v)]) hx hb dL_areAlike_168 rfl hl (by decide) rfl (fun ls hl => ?_)
  refine lv_iinc (v := nI 2) (lv' := [(4, .int (nI 2)), (3, .int (nI 1)), (0, .ref A0), (1, .ref A1), (2, .int v)]) hx hb dL_areAlike_169 hl (k := 1) rfl (by decide +kernel) (by decide) rfl (fun ls hl => ?_)
  refine lv_goto (tgt := 5) hx hb dL_areAlike_172 (by decide) ?_
  refine lv_iload hx hb dL_areAlike_5 (lv_at hl 0 rfl) ?_
  refine lv_iconst (v := nI 4) hx hb dL_areAlike_7 (by decide +kernel) ?_
  refine lv_icmp_ge (tgt := 175) hx hb dL_areAlike_8 (by decide) (fun c_5 => absurd c_5 (by decide +kernel)) (fun c_5 => ?_)
  clear c_5
  refine lv_iload_n hx hb dL_areAlike_11 rfl (lv_at hl 1 rfl) ?_
  refine lv_if_eq (tgt := 175) hx hb dL_areAlike_12 (by decide) (fun c_6 => absurd c_6 (by decide +kernel)) (fun c_6 => ?_)
  clear c_6
  refine lv_aload_n hx hb dL_areAlike_15 rfl (lv_at hl 2 rfl) ?_
  refine lv_iload hx hb dL_areAlike_16 (lv_at hl 0 rfl) ?_
  refine x_callH (k := 2) C hS (HR.two (A1 := A1) (T := S) (l_spent l hfl (E := E) (base := base) hI (x := nI 2))) hD qw_595 qw_0 ⟨by decide +kernel, by decide +kernel, by decide +kernel⟩ qw_594 qw_593 rfl [] rfl hl.1 (Nat.le_of_ble_eq_true rfl) ⟨(Nat.le_of_ble_eq_true rfl), (Nat.le_of_ble_eq_true rfl)⟩ dL_areAlike_18 ⟨(Nat.le_of_ble_eq_true rfl), (Nat.le_of_ble_eq_true rfl)⟩ (fun r H locs hp hS => ?_)
  obtain ⟨rfl, hD⟩ := hp
  rw [fS_spent] at hD
  refine lv_aload_n hx hb dL_areAlike_21 rfl (lv_at hl 3 rfl) ?_
  refine lv_iload hx hb dL_areAlike_22 (lv_at hl 0 rfl) ?_
  refine x_callH (k := 2) C hS (HR.two' (A0 := A0) (S := S) (l_spent l hfl (E := E) (base := base) hI (x := nI 2))) hD qw_595 qw_0 ⟨by decide +kernel, by decide +kernel, by decide +kernel⟩ qw_594 qw_593 rfl [.int ((f_spent S (nI 2)).1)] rfl hl.1 (Nat.le_of_ble_eq_true rfl) ⟨(Nat.le_of_ble_eq_true rfl), (Nat.le_of_ble_eq_true rfl)⟩ dL_areAlike_24 ⟨(Nat.le_of_ble_eq_true rfl), (Nat.le_of_ble_eq_true rfl)⟩ (fun r H locs hp hS => ?_)
  obtain ⟨rfl, hD⟩ := hp
  rw [fS_spent] at hD
  refine lv_icmp_ne (tgt := 167) hx hb dL_areAlike_27 (by decide) (fun c => absurd rfl c) (fun _ => ?_)
  refine lv_aload_n hx hb dL_areAlike_30 rfl (lv_at hl 2 rfl) ?_
  refine lv_iload hx hb dL_areAlike_31 (lv_at hl 0 rfl) ?_
  refine lv_iload_n hx hb dL_areAlike_33 rfl (lv_at hl 4 rfl) ?_
  refine lv_iconst (v := nI 5) hx hb dL_areAlike_34 (by decide +kernel) ?_
  refine x_callS C hS (c_low l (E := E) (base := base) (v := v) (n := nI 5) (by decide +kernel)) hD kL_low qw_113 qw_112 rfl [.int (nI 2), .ref A0] rfl hl.1 (Nat.le_of_ble_eq_true rfl) ⟨(Nat.le_of_ble_eq_true rfl), (Nat.le_of_ble_eq_true rfl)⟩ dL_areAlike_35 ⟨(Nat.le_of_ble_eq_true rfl), (Nat.le_of_ble_eq_true rfl)⟩ (fun r H locs hp hS => ?_)
  obtain ⟨rfl, hD⟩ := hp
  refine x_callH (k := 3) C hS (HR.two (A1 := A1) (T := S) (l_finds l hfl (E := E) (base := base) hI (x := nI 2) (z := (lowf v (nI 5))))) hD qw_602 qw_0 ⟨by decide +kernel, by decide +kernel, by decide +kernel⟩ qw_601 qw_600 rfl [] rfl hl.1 (Nat.le_of_ble_eq_true rfl) ⟨(Nat.le_of_ble_eq_true rfl), (Nat.le_of_ble_eq_true rfl)⟩ dL_areAlike_38 ⟨(Nat.le_of_ble_eq_true rfl), (Nat.le_of_ble_eq_true rfl)⟩ (fun r H locs hp hS => ?_)
  obtain ⟨rfl, hD⟩ := hp
  rw [fS_finds] at hD
  refine lv_aload_n hx hb dL_areAlike_41 rfl (lv_at hl 3 rfl) ?_
  refine lv_iload hx hb dL_areAlike_42 (lv_at hl 0 rfl) ?_
  refine lv_iload_n hx hb dL_areAlike_44 rfl (lv_at hl 4 rfl) ?_
  refine lv_iconst (v := nI 5) hx hb dL_areAlike_45 (by decide +kernel) ?_
  refine x_callS C hS (c_low l (E := E) (base := base) (v := v) (n := nI 5) (by decide +kernel)) hD kL_low qw_113 qw_112 rfl [.int (nI 2), .ref A1, .int ((f_finds S (nI 2) (lowf v (nI 5))).1)] rfl hl.1 (Nat.le_of_ble_eq_true rfl) ⟨(Nat.le_of_ble_eq_true rfl), (Nat.le_of_ble_eq_true rfl)⟩ dL_areAlike_46 ⟨(Nat.le_of_ble_eq_true rfl), (Nat.le_of_ble_eq_true rfl)⟩ (fun r H locs hp hS => ?_)
  obtain ⟨rfl, hD⟩ := hp
  refine x_callH (k := 3) C hS (HR.two' (A0 := A0) (S := S) (l_finds l hfl (E := E) (base := base) hI (x := nI 2) (z := (lowf v (nI 5))))) hD qw_602 qw_0 ⟨by decide +kernel, by decide +kernel, by decide +kernel⟩ qw_601 qw_600 rfl [.int ((f_finds S (nI 2) (lowf v (nI 5))).1)] rfl hl.1 (Nat.le_of_ble_eq_true rfl) ⟨(Nat.le_of_ble_eq_true rfl), (Nat.le_of_ble_eq_true rfl)⟩ dL_areAlike_49 ⟨(Nat.le_of_ble_eq_true rfl), (Nat.le_of_ble_eq_true rfl)⟩ (fun r H locs hp hS => ?_)
  obtain ⟨rfl, hD⟩ := hp
  rw [fS_finds] at hD
  refine lv_icmp_ne (tgt := 167) hx hb dL_areAlike_52 (by decide) (fun c => absurd rfl c) (fun _ => ?_)
  refine lv_aload_n hx hb dL_areAlike_55 rfl (lv_at hl 2 rfl) ?_
  refine lv_iload hx hb dL_areAlike_56 (lv_at hl 0 rfl) ?_
  refine lv_iload_n hx hb dL_areAlike_58 rfl (lv_at hl 4 rfl) ?_
  refine lv_iconst (v := nI 2) hx hb dL_areAlike_59 (by decide +kernel) ?_
  refine lv_ishr hx hb dL_areAlike_60 ?_
  refine lv_bipush (v := nI 6) hx hb dL_areAlike_61 (by decide +kernel) ?_
  refine x_callS C hS (c_low l (E := E) (base := base) (v := (v >>> (nI 2 &&& 31))) (n := nI 6) (by decide +kernel)) hD kL_low qw_113 qw_112 rfl [.int (nI 2), .ref A0] rfl hl.1 (Nat.le_of_ble_eq_true rfl) ⟨(Nat.le_of_ble_eq_true rfl), (Nat.le_of_ble_eq_true rfl)⟩ dL_areAlike_63 ⟨(Nat.le_of_ble_eq_true rfl), (Nat.le_of_ble_eq_true rfl)⟩ (fun r H locs hp hS => ?_)
  obtain ⟨rfl, hD⟩ := hp
  refine x_callH (k := 3) C hS (HR.two (A1 := A1) (T := S) (l_count l hfl (E := E) (base := base) hI (x := nI 2) (z := (lowf (v >>> (nI 2 &&& 31)) (nI 6))))) hD qw_641 qw_0 ⟨by decide +kernel, by decide +kernel, by decide +kernel⟩ qw_640 qw_639 rfl [] rfl hl.1 (Nat.le_of_ble_eq_true rfl) ⟨(Nat.le_of_ble_eq_true rfl), (Nat.le_of_ble_eq_true rfl)⟩ dL_areAlike_66 ⟨(Nat.le_of_ble_eq_true rfl), (Nat.le_of_ble_eq_true rfl)⟩ (fun r H locs hp hS => ?_)
  obtain ⟨rfl, hD⟩ := hp
  rw [fS_count] at hD
  refine lv_aload_n hx hb dL_areAlike_69 rfl (lv_at hl 3 rfl) ?_
  refine lv_iload hx hb dL_areAlike_70 (lv_at hl 0 rfl) ?_
  refine lv_iload_n hx hb dL_areAlike_72 rfl (lv_at hl 4 rfl) ?_
  refine lv_iconst (v := nI 2) hx hb dL_areAlike_73 (by decide +kernel) ?_
  refine lv_ishr hx hb dL_areAlike_74 ?_
  refine lv_bipush (v := nI 6) hx hb dL_areAlike_75 (by decide +kernel) ?_
  refine x_callS C hS (c_low l (E := E) (base := base) (v := (v >>> (nI 2 &&& 31))) (n := nI 6) (by decide +kernel)) hD kL_low qw_113 qw_112 rfl [.int (nI 2), .ref A1, .int ((f_count S (nI 2) (lowf (v >>> (nI 2 &&& 31)) (nI 6))).1)] rfl hl.1 (Nat.le_of_ble_eq_true rfl) ⟨(Nat.le_of_ble_eq_true rfl), (Nat.le_of_ble_eq_true rfl)⟩ dL_areAlike_77 ⟨(Nat.le_of_ble_eq_true rfl), (Nat.le_of_ble_eq_true rfl)⟩ (fun r H locs hp hS => ?_)
  obtain ⟨rfl, hD⟩ := hp
  refine x_callH (k := 3) C hS (HR.two' (A0 := A0) (S := S) (l_count l hfl (E := E) (base := base) hI (x := nI 2) (z := (lowf (v >>> (nI 2 &&& 31)) (nI 6))))) hD qw_641 qw_0 ⟨by decide +kernel, by decide +kernel, by decide +kernel⟩ qw_640 qw_639 rfl [.int ((f_count S (nI 2) (lowf (v >>> (nI 2 &&& 31)) (nI 6))).1)] rfl hl.1 (Nat.le_of_ble_eq_true rfl) ⟨(Nat.le_of_ble_eq_true rfl), (Nat.le_of_ble_eq_true rfl)⟩ dL_areAlike_80 ⟨(Nat.le_of_ble_eq_true rfl), (Nat.le_of_ble_eq_true rfl)⟩ (fun r H locs hp hS => ?_)
  obtain ⟨rfl, hD⟩ := hp
  rw [fS_count] at hD
  refine lv_icmp_ne (tgt := 167) hx hb dL_areAlike_83 (by decide) (fun c => absurd rfl c) (fun _ => ?_)
  refine lv_aload_n hx hb dL_areAlike_86 rfl (lv_at hl 2 rfl) ?_
  refine lv_iload hx hb dL_areAlike_87 (lv_at hl 0 rfl) ?_
  refine lv_iload_n hx hb dL_areAlike_89 rfl (lv_at hl 4 rfl) ?_
  refine lv_iconst (v := nI 4) hx hb dL_areAlike_90 (by decide +kernel) ?_
  refine lv_ishr hx hb dL_areAlike_91 ?_
  refine lv_iconst (v := nI 5) hx hb dL_areAlike_92 (by decide +kernel) ?_
  refine x_callS C hS (c_low l (E := E) (base := base) (v := (v >>> (nI 4 &&& 31))) (n := nI 5) (by decide +kernel)) hD kL_low qw_113 qw_112 rfl [.int (nI 2), .ref A0] rfl hl.1 (Nat.le_of_ble_eq_true rfl) ⟨(Nat.le_of_ble_eq_true rfl), (Nat.le_of_ble_eq_true rfl)⟩ dL_areAlike_93 ⟨(Nat.le_of_ble_eq_true rfl), (Nat.le_of_ble_eq_true rfl)⟩ (fun r H locs hp hS => ?_)
  obtain ⟨rfl, hD⟩ := hp
  refine x_callH (k := 3) C hS (HR.two (A1 := A1) (T := S) (l_rightTo l hfl (E := E) (base := base) hI (x := nI 2) (z := (lowf (v >>> (nI 4 &&& 31)) (nI 5))))) hD qw_627 qw_0 ⟨by decide +kernel, by decide +kernel, by decide +kernel⟩ qw_626 qw_625 rfl [] rfl hl.1 (Nat.le_of_ble_eq_true rfl) ⟨(Nat.le_of_ble_eq_true rfl), (Nat.le_of_ble_eq_true rfl)⟩ dL_areAlike_96 ⟨(Nat.le_of_ble_eq_true rfl), (Nat.le_of_ble_eq_true rfl)⟩ (fun r H locs hp hS => ?_)
  obtain ⟨rfl, hD⟩ := hp
  rw [fS_rightTo] at hD
  refine lv_aload_n hx hb dL_areAlike_99 rfl (lv_at hl 3 rfl) ?_
  refine lv_iload hx hb dL_areAlike_100 (lv_at hl 0 rfl) ?_
  refine lv_iload_n hx hb dL_areAlike_102 rfl (lv_at hl 4 rfl) ?_
  refine lv_iconst (v := nI 4) hx hb dL_areAlike_103 (by decide +kernel) ?_
  refine lv_ishr hx hb dL_areAlike_104 ?_
  refine lv_iconst (v := nI 5) hx hb dL_areAlike_105 (by decide +kernel) ?_
  refine x_callS C hS (c_low l (E := E) (base := base) (v := (v >>> (nI 4 &&& 31))) (n := nI 5) (by decide +kernel)) hD kL_low qw_113 qw_112 rfl [.int (nI 2), .ref A1, .int ((f_rightTo S (nI 2) (lowf (v >>> (nI 4 &&& 31)) (nI 5))).1)] rfl hl.1 (Nat.le_of_ble_eq_true rfl) ⟨(Nat.le_of_ble_eq_true rfl), (Nat.le_of_ble_eq_true rfl)⟩ dL_areAlike_106 ⟨(Nat.le_of_ble_eq_true rfl), (Nat.le_of_ble_eq_true rfl)⟩ (fun r H locs hp hS => ?_)
  obtain ⟨rfl, hD⟩ := hp
  refine x_callH (k := 3) C hS (HR.two' (A0 := A0) (S := S) (l_rightTo l hfl (E := E) (base := base) hI (x := nI 2) (z := (lowf (v >>> (nI 4 &&& 31)) (nI 5))))) hD qw_627 qw_0 ⟨by decide +kernel, by decide +kernel, by decide +kernel⟩ qw_626 qw_625 rfl [.int ((f_rightTo S (nI 2) (lowf (v >>> (nI 4 &&& 31)) (nI 5))).1)] rfl hl.1 (Nat.le_of_ble_eq_true rfl) ⟨(Nat.le_of_ble_eq_true rfl), (Nat.le_of_ble_eq_true rfl)⟩ dL_areAlike_109 ⟨(Nat.le_of_ble_eq_true rfl), (Nat.le_of_ble_eq_true rfl)⟩ (fun r H locs hp hS => ?_)
  obtain ⟨rfl, hD⟩ := hp
  rw [fS_rightTo] at hD
  refine lv_icmp_ne (tgt := 167) hx hb dL_areAlike_112 (by decide) (fun c => absurd rfl c) (fun _ => ?_)
  refine lv_aload_n hx hb dL_areAlike_115 rfl (lv_at hl 2 rfl) ?_
  refine lv_iload hx hb dL_areAlike_116 (lv_at hl 0 rfl) ?_
  refine x_callH (k := 2) C hS (HR.two (A1 := A1) (T := S) (l_isSealed l hfl (E := E) (base := base) hI (x := nI 2))) hD qw_634 qw_0 ⟨by decide +kernel, by decide +kernel, by decide +kernel⟩ qw_633 qw_632 rfl [] rfl hl.1 (Nat.le_of_ble_eq_true rfl) ⟨(Nat.le_of_ble_eq_true rfl), (Nat.le_of_ble_eq_true rfl)⟩ dL_areAlike_118 ⟨(Nat.le_of_ble_eq_true rfl), (Nat.le_of_ble_eq_true rfl)⟩ (fun r H locs hp hS => ?_)
  obtain ⟨rfl, hD⟩ := hp
  rw [fS_isSealed] at hD
  refine lv_aload_n hx hb dL_areAlike_121 rfl (lv_at hl 3 rfl) ?_
  refine lv_iload hx hb dL_areAlike_122 (lv_at hl 0 rfl) ?_
  refine x_callH (k := 2) C hS (HR.two' (A0 := A0) (S := S) (l_isSealed l hfl (E := E) (base := base) hI (x := nI 2))) hD qw_634 qw_0 ⟨by decide +kernel, by decide +kernel, by decide +kernel⟩ qw_633 qw_632 rfl [.int ((f_isSealed S (nI 2)).1)] rfl hl.1 (Nat.le_of_ble_eq_true rfl) ⟨(Nat.le_of_ble_eq_true rfl), (Nat.le_of_ble_eq_true rfl)⟩ dL_areAlike_124 ⟨(Nat.le_of_ble_eq_true rfl), (Nat.le_of_ble_eq_true rfl)⟩ (fun r H locs hp hS => ?_)
  obtain ⟨rfl, hD⟩ := hp
  rw [fS_isSealed] at hD
  refine lv_icmp_ne (tgt := 167) hx hb dL_areAlike_127 (by decide) (fun c => absurd rfl c) (fun _ => ?_)
  refine lv_aload_n hx hb dL_areAlike_130 rfl (lv_at hl 2 rfl) ?_
  refine lv_iload hx hb dL_areAlike_131 (lv_at hl 0 rfl) ?_
  refine lv_iload_n hx hb dL_areAlike_133 rfl (lv_at hl 4 rfl) ?_
  refine lv_bipush (v := nI 6) hx hb dL_areAlike_134 (by decide +kernel) ?_
  refine lv_ishr hx hb dL_areAlike_136 ?_
  refine lv_bipush (v := nI 6) hx hb dL_areAlike_137 (by decide +kernel) ?_
  refine x_callS C hS (c_low l (E := E) (base := base) (v := (v >>> (nI 6 &&& 31))) (n := nI 6) (by decide +kernel)) hD kL_low qw_113 qw_112 rfl [.int (nI 2), .ref A0] rfl hl.1 (Nat.le_of_ble_eq_true rfl) ⟨(Nat.le_of_ble_eq_true rfl), (Nat.le_of_ble_eq_true rfl)⟩ dL_areAlike_139 ⟨(Nat.le_of_ble_eq_true rfl), (Nat.le_of_ble_eq_true rfl)⟩ (fun r H locs hp hS => ?_)
  obtain ⟨rfl, hD⟩ := hp
  refine x_callH (k := 3) C hS (HR.two (A1 := A1) (T := S) (l_answer l hfl (E := E) (base := base) hI (x := nI 2) (z := (lowf (v >>> (nI 6 &&& 31)) (nI 6))))) hD qw_583 qw_0 ⟨by decide +kernel, by decide +kernel, by decide +kernel⟩ qw_582 qw_581 rfl [] rfl hl.1 (Nat.le_of_ble_eq_true rfl) ⟨(Nat.le_of_ble_eq_true rfl), (Nat.le_of_ble_eq_true rfl)⟩ dL_areAlike_142 ⟨(Nat.le_of_ble_eq_true rfl), (Nat.le_of_ble_eq_true rfl)⟩ (fun r H locs hp hS => ?_)
  obtain ⟨rfl, hD⟩ := hp
  rw [fS_answer] at hD
  refine lv_aload_n hx hb dL_areAlike_145 rfl (lv_at hl 3 rfl) ?_
  refine lv_iload hx hb dL_areAlike_146 (lv_at hl 0 rfl) ?_
  refine lv_iload_n hx hb dL_areAlike_148 rfl (lv_at hl 4 rfl) ?_
  refine lv_bipush (v := nI 6) hx hb dL_areAlike_149 (by decide +kernel) ?_
  refine lv_ishr hx hb dL_areAlike_151 ?_
  refine lv_bipush (v := nI 6) hx hb dL_areAlike_152 (by decide +kernel) ?_
  refine x_callS C hS (c_low l (E := E) (base := base) (v := (v >>> (nI 6 &&& 31))) (n := nI 6) (by decide +kernel)) hD kL_low qw_113 qw_112 rfl [.int (nI 2), .ref A1, .int ((f_answer S (nI 2) (lowf (v >>> (nI 6 &&& 31)) (nI 6))).1)] rfl hl.1 (Nat.le_of_ble_eq_true rfl) ⟨(Nat.le_of_ble_eq_true rfl), (Nat.le_of_ble_eq_true rfl)⟩ dL_areAlike_154 ⟨(Nat.le_of_ble_eq_true rfl), (Nat.le_of_ble_eq_true rfl)⟩ (fun r H locs hp hS => ?_)
  obtain ⟨rfl, hD⟩ := hp
  refine x_callH (k := 3) C hS (HR.two' (A0 := A0) (S := S) (l_answer l hfl (E := E) (base := base) hI (x := nI 2) (z := (lowf (v >>> (nI 6 &&& 31)) (nI 6))))) hD qw_583 qw_0 ⟨by decide +kernel, by decide +kernel, by decide +kernel⟩ qw_582 qw_581 rfl [.int ((f_answer S (nI 2) (lowf (v >>> (nI 6 &&& 31)) (nI 6))).1)] rfl hl.1 (Nat.le_of_ble_eq_true rfl) ⟨(Nat.le_of_ble_eq_true rfl), (Nat.le_of_ble_eq_true rfl)⟩ dL_areAlike_157 ⟨(Nat.le_of_ble_eq_true rfl), (Nat.le_of_ble_eq_true rfl)⟩ (fun r H locs hp hS => ?_)
  obtain ⟨rfl, hD⟩ := hp
  rw [fS_answer] at hD
  refine lv_icmp_ne (tgt := 167) hx hb dL_areAlike_160 (by decide) (fun c => absurd rfl c) (fun _ => ?_)
  refine lv_iconst (v := nI 1) hx hb dL_areAlike_163 (by decide +kernel) ?_
  refine lv_goto (tgt := 168) hx hb dL_areAlike_164 (by decide) ?_
  refine lv_istore_n (lv' := [(3, .int (nI 1)), (4, .int (nI 2)), (0, .ref A0), (1, .ref A1), (2, .int v)]) hx hb dL_areAlike_168 rfl hl (by decide) rfl (fun ls hl => ?_)
  refine lv_iinc (v := nI 3) (lv' := [(4, .int (nI 3)), (3, .int (nI 1)), (0, .ref A0), (1, .ref A1), (2, .int v)]) hx hb dL_areAlike_169 hl (k := 1) rfl (by decide +kernel) (by decide) rfl (fun ls hl => ?_)
  refine lv_goto (tgt := 5) hx hb dL_areAlike_172 (by decide) ?_
  refine lv_iload hx hb dL_areAlike_5 (lv_at hl 0 rfl) ?_
  refine lv_iconst (v := nI 4) hx hb dL_areAlike_7 (by decide +kernel) ?_
  refine lv_icmp_ge (tgt := 175) hx hb dL_areAlike_8 (by decide) (fun c_7 => absurd c_7 (by decide +kernel)) (fun c_7 => ?_)
  clear c_7
  refine lv_iload_n hx hb dL_areAlike_11 rfl (lv_at hl 1 rfl) ?_
  refine lv_if_eq (tgt := 175) hx hb dL_areAlike_12 (by decide) (fun c_8 => absurd c_8 (by decide +kernel)) (fun c_8 => ?_)
  clear c_8
  refine lv_aload_n hx hb dL_areAlike_15 rfl (lv_at hl 2 rfl) ?_
  refine lv_iload hx hb dL_areAlike_16 (lv_at hl 0 rfl) ?_
  refine x_callH (k := 2) C hS (HR.two (A1 := A1) (T := S) (l_spent l hfl (E := E) (base := base) hI (x := nI 3))) hD qw_595 qw_0 ⟨by decide +kernel, by decide +kernel, by decide +kernel⟩ qw_594 qw_593 rfl [] rfl hl.1 (Nat.le_of_ble_eq_true rfl) ⟨(Nat.le_of_ble_eq_true rfl), (Nat.le_of_ble_eq_true rfl)⟩ dL_areAlike_18 ⟨(Nat.le_of_ble_eq_true rfl), (Nat.le_of_ble_eq_true rfl)⟩ (fun r H locs hp hS => ?_)
  obtain ⟨rfl, hD⟩ := hp
  rw [fS_spent] at hD
  refine lv_aload_n hx hb dL_areAlike_21 rfl (lv_at hl 3 rfl) ?_
  refine lv_iload hx hb dL_areAlike_22 (lv_at hl 0 rfl) ?_
  refine x_callH (k := 2) C hS (HR.two' (A0 := A0) (S := S) (l_spent l hfl (E := E) (base := base) hI (x := nI 3))) hD qw_595 qw_0 ⟨by decide +kernel, by decide +kernel, by decide +kernel⟩ qw_594 qw_593 rfl [.int ((f_spent S (nI 3)).1)] rfl hl.1 (Nat.le_of_ble_eq_true rfl) ⟨(Nat.le_of_ble_eq_true rfl), (Nat.le_of_ble_eq_true rfl)⟩ dL_areAlike_24 ⟨(Nat.le_of_ble_eq_true rfl), (Nat.le_of_ble_eq_true rfl)⟩ (fun r H locs hp hS => ?_)
  obtain ⟨rfl, hD⟩ := hp
  rw [fS_spent] at hD
  refine lv_icmp_ne (tgt := 167) hx hb dL_areAlike_27 (by decide) (fun c => absurd rfl c) (fun _ => ?_)
  refine lv_aload_n hx hb dL_areAlike_30 rfl (lv_at hl 2 rfl) ?_
  refine lv_iload hx hb dL_areAlike_31 (lv_at hl 0 rfl) ?_
  refine lv_iload_n hx hb dL_areAlike_33 rfl (lv_at hl 4 rfl) ?_
  refine lv_iconst (v := nI 5) hx hb dL_areAlike_34 (by decide +kernel) ?_
  refine x_callS C hS (c_low l (E := E) (base := base) (v := v) (n := nI 5) (by decide +kernel)) hD kL_low qw_113 qw_112 rfl [.int (nI 3), .ref A0] rfl hl.1 (Nat.le_of_ble_eq_true rfl) ⟨(Nat.le_of_ble_eq_true rfl), (Nat.le_of_ble_eq_true rfl)⟩ dL_areAlike_35 ⟨(Nat.le_of_ble_eq_true rfl), (Nat.le_of_ble_eq_true rfl)⟩ (fun r H locs hp hS => ?_)
  obtain ⟨rfl, hD⟩ := hp
  refine x_callH (k := 3) C hS (HR.two (A1 := A1) (T := S) (l_finds l hfl (E := E) (base := base) hI (x := nI 3) (z := (lowf v (nI 5))))) hD qw_602 qw_0 ⟨by decide +kernel, by decide +kernel, by decide +kernel⟩ qw_601 qw_600 rfl [] rfl hl.1 (Nat.le_of_ble_eq_true rfl) ⟨(Nat.le_of_ble_eq_true rfl), (Nat.le_of_ble_eq_true rfl)⟩ dL_areAlike_38 ⟨(Nat.le_of_ble_eq_true rfl), (Nat.le_of_ble_eq_true rfl)⟩ (fun r H locs hp hS => ?_)
  obtain ⟨rfl, hD⟩ := hp
  rw [fS_finds] at hD
  refine lv_aload_n hx hb dL_areAlike_41 rfl (lv_at hl 3 rfl) ?_
  refine lv_iload hx hb dL_areAlike_42 (lv_at hl 0 rfl) ?_
  refine lv_iload_n hx hb dL_areAlike_44 rfl (lv_at hl 4 rfl) ?_
  refine lv_iconst (v := nI 5) hx hb dL_areAlike_45 (by decide +kernel) ?_
  refine x_callS C hS (c_low l (E := E) (base := base) (v := v) (n := nI 5) (by decide +kernel)) hD kL_low qw_113 qw_112 rfl [.int (nI 3), .ref A1, .int ((f_finds S (nI 3) (lowf v (nI 5))).1)] rfl hl.1 (Nat.le_of_ble_eq_true rfl) ⟨(Nat.le_of_ble_eq_true rfl), (Nat.le_of_ble_eq_true rfl)⟩ dL_areAlike_46 ⟨(Nat.le_of_ble_eq_true rfl), (Nat.le_of_ble_eq_true rfl)⟩ (fun r H locs hp hS => ?_)
  obtain ⟨rfl, hD⟩ := hp
  refine x_callH (k := 3) C hS (HR.two' (A0 := A0) (S := S) (l_finds l hfl (E := E) (base := base) hI (x := nI 3) (z := (lowf v (nI 5))))) hD qw_602 qw_0 ⟨by decide +kernel, by decide +kernel, by decide +kernel⟩ qw_601 qw_600 rfl [.int ((f_finds S (nI 3) (lowf v (nI 5))).1)] rfl hl.1 (Nat.le_of_ble_eq_true rfl) ⟨(Nat.le_of_ble_eq_true rfl), (Nat.le_of_ble_eq_true rfl)⟩ dL_areAlike_49 ⟨(Nat.le_of_ble_eq_true rfl), (Nat.le_of_ble_eq_true rfl)⟩ (fun r H locs hp hS => ?_)
  obtain ⟨rfl, hD⟩ := hp
  rw [fS_finds] at hD
  refine lv_icmp_ne (tgt := 167) hx hb dL_areAlike_52 (by decide) (fun c => absurd rfl c) (fun _ => ?_)
  refine lv_aload_n hx hb dL_areAlike_55 rfl (lv_at hl 2 rfl) ?_
  refine lv_iload hx hb dL_areAlike_56 (lv_at hl 0 rfl) ?_
  refine lv_iload_n hx hb dL_areAlike_58 rfl (lv_at hl 4 rfl) ?_
  refine lv_iconst (v := nI 2) hx hb dL_areAlike_59 (by decide +kernel) ?_
  refine lv_ishr hx hb dL_areAlike_60 ?_
  refine lv_bipush (v := nI 6) hx hb dL_areAlike_61 (by decide +kernel) ?_
  refine x_callS C hS (c_low l (E := E) (base := base) (v := (v >>> (nI 2 &&& 31))) (n := nI 6) (by decide +kernel)) hD kL_low qw_113 qw_112 rfl [.int (nI 3), .ref A0] rfl hl.1 (Nat.le_of_ble_eq_true rfl) ⟨(Nat.le_of_ble_eq_true rfl), (Nat.le_of_ble_eq_true rfl)⟩ dL_areAlike_63 ⟨(Nat.le_of_ble_eq_true rfl), (Nat.le_of_ble_eq_true rfl)⟩ (fun r H locs hp hS => ?_)
  obtain ⟨rfl, hD⟩ := hp
  refine x_callH (k := 3) C hS (HR.two (A1 := A1) (T := S) (l_count l hfl (E := E) (base := base) hI (x := nI 3) (z := (lowf (v >>> (nI 2 &&& 31)) (nI 6))))) hD qw_641 qw_0 ⟨by decide +kernel, by decide +kernel, by decide +kernel⟩ qw_640 qw_639 rfl [] rfl hl.1 (Nat.le_of_ble_eq_true rfl) ⟨(Nat.le_of_ble_eq_true rfl), (Nat.le_of_ble_eq_true rfl)⟩ dL_areAlike_66 ⟨(Nat.le_of_ble_eq_true rfl), (Nat.le_of_ble_eq_true rfl)⟩ (fun r H locs hp hS => ?_)
  obtain ⟨rfl, hD⟩ := hp
  rw [fS_count] at hD
  refine lv_aload_n hx hb dL_areAlike_69 rfl (lv_at hl 3 rfl) ?_
  refine lv_iload hx hb dL_areAlike_70 (lv_at hl 0 rfl) ?_
  refine lv_iload_n hx hb dL_areAlike_72 rfl (lv_at hl 4 rfl) ?_
  refine lv_iconst (v := nI 2) hx hb dL_areAlike_73 (by decide +kernel) ?_
  refine lv_ishr hx hb dL_areAlike_74 ?_
  refine lv_bipush (v := nI 6) hx hb dL_areAlike_75 (by decide +kernel) ?_
  refine x_callS C hS (c_low l (E := E) (base := base) (v := (v >>> (nI 2 &&& 31))) (n := nI 6) (by decide +kernel)) hD kL_low qw_113 qw_112 rfl [.int (nI 3), .ref A1, .int ((f_count S (nI 3) (lowf (v >>> (nI 2 &&& 31)) (nI 6))).1)] rfl hl.1 (Nat.le_of_ble_eq_true rfl) ⟨(Nat.le_of_ble_eq_true rfl), (Nat.le_of_ble_eq_true rfl)⟩ dL_areAlike_77 ⟨(Nat.le_of_ble_eq_true rfl), (Nat.le_of_ble_eq_true rfl)⟩ (fun r H locs hp hS => ?_)
  obtain ⟨rfl, hD⟩ := hp
  refine x_callH (k := 3) C hS (HR.two' (A0 := A0) (S := S) (l_count l hfl (E := E) (base := base) hI (x := nI 3) (z := (lowf (v >>> (nI 2 &&& 31)) (nI 6))))) hD qw_641 qw_0 ⟨by decide +kernel, by decide +kernel, by decide +kernel⟩ qw_640 qw_639 rfl [.int ((f_count S (nI 3) (lowf (v >>> (nI 2 &&& 31)) (nI 6))).1)] rfl hl.1 (Nat.le_of_ble_eq_true rfl) ⟨(Nat.le_of_ble_eq_true rfl), (Nat.le_of_ble_eq_true rfl)⟩ dL_areAlike_80 ⟨(Nat.le_of_ble_eq_true rfl), (Nat.le_of_ble_eq_true rfl)⟩ (fun r H locs hp hS => ?_)
  obtain ⟨rfl, hD⟩ := hp
  rw [fS_count] at hD
  refine lv_icmp_ne (tgt := 167) hx hb dL_areAlike_83 (by decide) (fun c => absurd rfl c) (fun _ => ?_)
  refine lv_aload_n hx hb dL_areAlike_86 rfl (lv_at hl 2 rfl) ?_
  refine lv_iload hx hb dL_areAlike_87 (lv_at hl 0 rfl) ?_
  refine lv_iload_n hx hb dL_areAlike_89 rfl (lv_at hl 4 rfl) ?_
  refine lv_iconst (v := nI 4) hx hb dL_areAlike_90 (by decide +kernel) ?_
  refine lv_ishr hx hb dL_areAlike_91 ?_
  refine lv_iconst (v := nI 5) hx hb dL_areAlike_92 (by decide +kernel) ?_
  refine x_callS C hS (c_low l (E := E) (base := base) (v := (v >>> (nI 4 &&& 31))) (n := nI 5) (by decide +kernel)) hD kL_low qw_113 qw_112 rfl [.int (nI 3), .ref A0] rfl hl.1 (Nat.le_of_ble_eq_true rfl) ⟨(Nat.le_of_ble_eq_true rfl), (Nat.le_of_ble_eq_true rfl)⟩ dL_areAlike_93 ⟨(Nat.le_of_ble_eq_true rfl), (Nat.le_of_ble_eq_true rfl)⟩ (fun r H locs hp hS => ?_)
  obtain ⟨rfl, hD⟩ := hp
  refine x_callH (k := 3) C hS (HR.two (A1 := A1) (T := S) (l_rightTo l hfl (E := E) (base := base) hI (x := nI 3) (z := (lowf (v >>> (nI 4 &&& 31)) (nI 5))))) hD qw_627 qw_0 ⟨by decide +kernel, by decide +kernel, by decide +kernel⟩ qw_626 qw_625 rfl [] rfl hl.1 (Nat.le_of_ble_eq_true rfl) ⟨(Nat.le_of_ble_eq_true rfl), (Nat.le_of_ble_eq_true rfl)⟩ dL_areAlike_96 ⟨(Nat.le_of_ble_eq_true rfl), (Nat.le_of_ble_eq_true rfl)⟩ (fun r H locs hp hS => ?_)
  obtain ⟨rfl, hD⟩ := hp
  rw [fS_rightTo] at hD
  refine lv_aload_n hx hb dL_areAlike_99 rfl (lv_at hl 3 rfl) ?_
  refine lv_iload hx hb dL_areAlike_100 (lv_at hl 0 rfl) ?_
  refine lv_iload_n hx hb dL_areAlike_102 rfl (lv_at hl 4 rfl) ?_
  refine lv_iconst (v := nI 4) hx hb dL_areAlike_103 (by decide +kernel) ?_
  refine lv_ishr hx hb dL_areAlike_104 ?_
  refine lv_iconst (v := nI 5) hx hb dL_areAlike_105 (by decide +kernel) ?_
  refine x_callS C hS (c_low l (E := E) (base := base) (v := (v >>> (nI 4 &&& 31))) (n := nI 5) (by decide +kernel)) hD kL_low qw_113 qw_112 rfl [.int (nI 3), .ref A1, .int ((f_rightTo S (nI 3) (lowf (v >>> (nI 4 &&& 31)) (nI 5))).1)] rfl hl.1 (Nat.le_of_ble_eq_true rfl) ⟨(Nat.le_of_ble_eq_true rfl), (Nat.le_of_ble_eq_true rfl)⟩ dL_areAlike_106 ⟨(Nat.le_of_ble_eq_true rfl), (Nat.le_of_ble_eq_true rfl)⟩ (fun r H locs hp hS => ?_)
  obtain ⟨rfl, hD⟩ := hp
  refine x_callH (k := 3) C hS (HR.two' (A0 := A0) (S := S) (l_rightTo l hfl (E := E) (base := base) hI (x := nI 3) (z := (lowf (v >>> (nI 4 &&& 31)) (nI 5))))) hD qw_627 qw_0 ⟨by decide +kernel, by decide +kernel, by decide +kernel⟩ qw_626 qw_625 rfl [.int ((f_rightTo S (nI 3) (lowf (v >>> (nI 4 &&& 31)) (nI 5))).1)] rfl hl.1 (Nat.le_of_ble_eq_true rfl) ⟨(Nat.le_of_ble_eq_true rfl), (Nat.le_of_ble_eq_true rfl)⟩ dL_areAlike_109 ⟨(Nat.le_of_ble_eq_true rfl), (Nat.le_of_ble_eq_true rfl)⟩ (fun r H locs hp hS => ?_)
  obtain ⟨rfl, hD⟩ := hp
  rw [fS_rightTo] at hD
  refine lv_icmp_ne (tgt := 167) hx hb dL_areAlike_112 (by decide) (fun c => absurd rfl c) (fun _ => ?_)
  refine lv_aload_n hx hb dL_areAlike_115 rfl (lv_at hl 2 rfl) ?_
  refine lv_iload hx hb dL_areAlike_116 (lv_at hl 0 rfl) ?_
  refine x_callH (k := 2) C hS (HR.two (A1 := A1) (T := S) (l_isSealed l hfl (E := E) (base := base) hI (x := nI 3))) hD qw_634 qw_0 ⟨by decide +kernel, by decide +kernel, by decide +kernel⟩ qw_633 qw_632 rfl [] rfl hl.1 (Nat.le_of_ble_eq_true rfl) ⟨(Nat.le_of_ble_eq_true rfl), (Nat.le_of_ble_eq_true rfl)⟩ dL_areAlike_118 ⟨(Nat.le_of_ble_eq_true rfl), (Nat.le_of_ble_eq_true rfl)⟩ (fun r H locs hp hS => ?_)
  obtain ⟨rfl, hD⟩ := hp
  rw [fS_isSealed] at hD
  refine lv_aload_n hx hb dL_areAlike_121 rfl (lv_at hl 3 rfl) ?_
  refine lv_iload hx hb dL_areAlike_122 (lv_at hl 0 rfl) ?_
  refine x_callH (k := 2) C hS (HR.two' (A0 := A0) (S := S) (l_isSealed l hfl (E := E) (base := base) hI (x := nI 3))) hD qw_634 qw_0 ⟨by decide +kernel, by decide +kernel, by decide +kernel⟩ qw_633 qw_632 rfl [.int ((f_isSealed S (nI 3)).1)] rfl hl.1 (Nat.le_of_ble_eq_true rfl) ⟨(Nat.le_of_ble_eq_true rfl), (Nat.le_of_ble_eq_true rfl)⟩ dL_areAlike_124 ⟨(Nat.le_of_ble_eq_true rfl), (Nat.le_of_ble_eq_true rfl)⟩ (fun r H locs hp hS => ?_)
  obtain ⟨rfl, hD⟩ := hp
  rw [fS_isSealed] at hD
  refine lv_icmp_ne (tgt := 167) hx hb dL_areAlike_127 (by decide) (fun c => absurd rfl c) (fun _ => ?_)
  refine lv_aload_n hx hb dL_areAlike_130 rfl (lv_at hl 2 rfl) ?_
  refine lv_iload hx hb dL_areAlike_131 (lv_at hl 0 rfl) ?_
  refine lv_iload_n hx hb dL_areAlike_133 rfl (lv_at hl 4 rfl) ?_
  refine lv_bipush (v := nI 6) hx hb dL_areAlike_134 (by decide +kernel) ?_
  refine lv_ishr hx hb dL_areAlike_136 ?_
  refine lv_bipush (v := nI 6) hx hb dL_areAlike_137 (by decide +kernel) ?_
  refine x_callS C hS (c_low l (E := E) (base := base) (v := (v >>> (nI 6 &&& 31))) (n := nI 6) (by decide +kernel)) hD kL_low qw_113 qw_112 rfl [.int (nI 3), .ref A0] rfl hl.1 (Nat.le_of_ble_eq_true rfl) ⟨(Nat.le_of_ble_eq_true rfl), (Nat.le_of_ble_eq_true rfl)⟩ dL_areAlike_139 ⟨(Nat.le_of_ble_eq_true rfl), (Nat.le_of_ble_eq_true rfl)⟩ (fun r H locs hp hS => ?_)
  obtain ⟨rfl, hD⟩ := hp
  refine x_callH (k := 3) C hS (HR.two (A1 := A1) (T := S) (l_answer l hfl (E := E) (base := base) hI (x := nI 3) (z := (lowf (v >>> (nI 6 &&& 31)) (nI 6))))) hD qw_583 qw_0 ⟨by decide +kernel, by decide +kernel, by decide +kernel⟩ qw_582 qw_581 rfl [] rfl hl.1 (Nat.le_of_ble_eq_true rfl) ⟨(Nat.le_of_ble_eq_true rfl), (Nat.le_of_ble_eq_true rfl)⟩ dL_areAlike_142 ⟨(Nat.le_of_ble_eq_true rfl), (Nat.le_of_ble_eq_true rfl)⟩ (fun r H locs hp hS => ?_)
  obtain ⟨rfl, hD⟩ := hp
  rw [fS_answer] at hD
  refine lv_aload_n hx hb dL_areAlike_145 rfl (lv_at hl 3 rfl) ?_
  refine lv_iload hx hb dL_areAlike_146 (lv_at hl 0 rfl) ?_
  refine lv_iload_n hx hb dL_areAlike_148 rfl (lv_at hl 4 rfl) ?_
  refine lv_bipush (v := nI 6) hx hb dL_areAlike_149 (by decide +kernel) ?_
  refine lv_ishr hx hb dL_areAlike_151 ?_
  refine lv_bipush (v := nI 6) hx hb dL_areAlike_152 (by decide +kernel) ?_
  refine x_callS C hS (c_low l (E := E) (base := base) (v := (v >>> (nI 6 &&& 31))) (n := nI 6) (by decide +kernel)) hD kL_low qw_113 qw_112 rfl [.int (nI 3), .ref A1, .int ((f_answer S (nI 3) (lowf (v >>> (nI 6 &&& 31)) (nI 6))).1)] rfl hl.1 (Nat.le_of_ble_eq_true rfl) ⟨(Nat.le_of_ble_eq_true rfl), (Nat.le_of_ble_eq_true rfl)⟩ dL_areAlike_154 ⟨(Nat.le_of_ble_eq_true rfl), (Nat.le_of_ble_eq_true rfl)⟩ (fun r H locs hp hS => ?_)
  obtain ⟨rfl, hD⟩ := hp
  refine x_callH (k := 3) C hS (HR.two' (A0 := A0) (S := S) (l_answer l hfl (E := E) (base := base) hI (x := nI 3) (z := (lowf (v >>> (nI 6 &&& 31)) (nI 6))))) hD qw_583 qw_0 ⟨by decide +kernel, by decide +kernel, by decide +kernel⟩ qw_582 qw_581 rfl [.int ((f_answer S (nI 3) (lowf (v >>> (nI 6 &&& 31)) (nI 6))).1)] rfl hl.1 (Nat.le_of_ble_eq_true rfl) ⟨(Nat.le_of_ble_eq_true rfl), (Nat.le_of_ble_eq_true rfl)⟩ dL_areAlike_157 ⟨(Nat.le_of_ble_eq_true rfl), (Nat.le_of_ble_eq_true rfl)⟩ (fun r H locs hp hS => ?_)
  obtain ⟨rfl, hD⟩ := hp
  rw [fS_answer] at hD
  refine lv_icmp_ne (tgt := 167) hx hb dL_areAlike_160 (by decide) (fun c => absurd rfl c) (fun _ => ?_)
  refine lv_iconst (v := nI 1) hx hb dL_areAlike_163 (by decide +kernel) ?_
  refine lv_goto (tgt := 168) hx hb dL_areAlike_164 (by decide) ?_
  refine lv_istore_n (lv' := [(3, .int (nI 1)), (4, .int (nI 3)), (0, .ref A0), (1, .ref A1), (2, .int v)]) hx hb dL_areAlike_168 rfl hl (by decide) rfl (fun ls hl => ?_)
  refine lv_iinc (v := nI 4) (lv' := [(4, .int (nI 4)), (3, .int (nI 1)), (0, .ref A0), (1, .ref A1), (2, .int v)]) hx hb dL_areAlike_169 hl (k := 1) rfl (by decide +kernel) (by decide) rfl (fun ls hl => ?_)
  refine lv_goto (tgt := 5) hx hb dL_areAlike_172 (by decide) ?_
  refine lv_iload hx hb dL_areAlike_5 (lv_at hl 0 rfl) ?_
  refine lv_iconst (v := nI 4) hx hb dL_areAlike_7 (by decide +kernel) ?_
  refine lv_icmp_ge (tgt := 175) hx hb dL_areAlike_8 (by decide) (fun c_9 => ?_) (fun c_9 => absurd (by decide +kernel) c_9)
  clear c_9
  refine lv_iload_n hx hb dL_areAlike_175 rfl (lv_at hl 1 rfl) ?_
  rw [← hQ]
  refine x_reti C rfl hS (Nat.le_of_ble_eq_true rfl) (Nat.le_of_ble_eq_true rfl) dL_areAlike_176 ?_
  rw [hpost]
  exact ⟨rfl, hD⟩
