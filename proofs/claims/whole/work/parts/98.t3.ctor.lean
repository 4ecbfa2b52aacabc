/-! the class's constructor; the memory behind both constructors -/
def k_t10 (kd : Nat → Nat × Nat) : Nat → Nat × Nat := (va_up (va_up (va_up (va_up (k_t3 (va_up (k_t0 (va_up (k_t1 (va_up (k_t8_97 (va_up (k_t8_93 (va_up (va_up (k_t7 (va_up (k_t7 (va_up (va_up (k_t2 (va_up (k_t7 (va_up (k_t7 (va_up (k_t7 (va_up (k_t6 (va_up (k_t4 (va_up (k_t9 (va_up kd 1 (9, 0))) 3 (4, 0))) 5 (6, 0))) 21 (7, 0)) 21) 25 (7, 0)) 25) 29 (7, 0)) 29) 33 (2, 0))) 83 (24, 2)) 84 (7, 0)) 84) 88 (7, 0)) 88) 92 (22, 2)) 93 (8, 0))) 97 (8, 0))) 101 (1, 0))) 102 (0, 0))) 105 (3, 0))) 108 (20, 7)) 109 (20, 6)) 110 (20, 6)) 111 (20, 294))
def i_t10 (Js : Nat → Nat → Int32) : Nat → Nat → Int32 := (z_zi (z_zi (z_zi (z_zi (i_t3 (z_zi (i_t0 (z_zi (i_t1 (z_zi (i_t8_97 (z_zi (i_t8_93 (z_zi (z_zi (i_t7 (z_zi (i_t7 (z_zi (z_zi (i_t2 (z_zi (i_t7 (z_zi (i_t7 (z_zi (i_t7 (z_zi Js 21) 21) 25) 25) 29) 29) 33)) 83) 84) 84) 88) 88) 92) 93)) 97)) 101)) 102)) 105)) 108) 109) 110) 111)
def l_t10 (L : Nat → Nat → Int64) : Nat → Nat → Int64 := (z_zl (z_zl (z_zl (z_zl (l_t3 (z_zl (l_t0 (z_zl (l_t1 (z_zl (l_t8_97 (z_zl (l_t8_93 (z_zl (z_zl (l_t7 (z_zl (l_t7 (z_zl (z_zl (l_t2 (z_zl (l_t7 (z_zl (l_t7 (z_zl (l_t7 (z_zl (l_t6 (z_zl (l_t4 (z_zl (l_t9 (z_zl L 1)) 3)) 5)) 21) 21) 25) 25) 29) 29) 33)) 83) 84) 84) 88) 88) 92) 93)) 97)) 101)) 102)) 105)) 108) 109) 110) 111)
def r_t10 (Rf : Nat → Nat → Option Nat) : Nat → Nat → Option Nat := (z_pR (z_zr (z_pR (z_zr (z_pR (z_zr (z_pR (z_zr (z_pR (r_t3 (z_zr (z_pR (r_t0 (z_zr (z_pR (r_t1 (z_zr (z_pR (r_t8_97 (z_zr (z_pR (r_t8_93 (z_zr (z_pR (z_zr (z_pR (z_pR (r_t7 (z_zr (z_pR (r_t7 (z_zr (z_zr (z_pR (r_t2 (z_zr (z_pR (r_t7 (z_zr (z_pR (r_t7 (z_zr (z_pR (r_t7 (z_zr (z_pR (r_t6 (z_zr (z_pR (r_t4 (z_zr (z_pR (r_t9 (z_zr Rf 1)) 0 0 1) 3)) 0 1 3) 5)) 0 2 5) 21) 21) 0 3 21) 25) 25) 0 4 25) 29) 29) 0 5 29) 33)) 0 6 33) 83) 84) 84) 83 0 84) 88) 88) 83 1 88) 0 7 83) 92) 0 8 92) 93)) 0 9 93) 97)) 0 10 97) 101)) 0 11 101) 102)) 0 12 102) 105)) 0 13 105) 108) 0 14 108) 109) 0 15 109) 110) 0 16 110) 111) 0 17 111)
def i_t10b (I : Nat → Nat → Int32) : Nat → Nat → Int32 := (z_zi (i_t4 (z_zi (i_t9 (z_zi I 1)) 3)) 5)
theorem q_ini_t10 {sl : Nat × Nat} {kd : Nat → Nat × Nat} {I : Nat → Nat → Int32} {L : Nat → Nat → Int64} {Rf : Nat → Nat → Option Nat} (d : Nat) (hk : (kd 0).1 = 10) : eb_Q mX10_init (d + 8) [.ref 0] (1, sl, kd, I, L, Rf) (fun r τ => r = none ∧ ∃ Js, τ = (112, (sl.1 + 111, sl.2 + 2219), k_t10 kd, i_t10 Js, l_t10 L, r_t10 Rf) ∧ zSe Js ∧ ∀ q, q < 5 ∨ 20 < q → Js q = i_t10b I q) := by
  refine ep_meth pn_X.2.2.2.2.2.2.2.2.2.2.1 (Nat.le_of_ble_eq_true rfl) ?_
  show eb_P _ _ 0 [(0, .ref 0)] [] (1, sl, kd, I, L, Rf) _
  refine ep_aload_n (i := 0) dX10_init_0 rfl rfl ?_
  refine ep_objI dX10_init_1 olX10_1 (Nat.le_of_ble_eq_true rfl) ?_
  refine ep_aload_n (i := 0) dX10_init_4 rfl rfl ?_
  refine ep_new (c := 9) (N := 2) dX10_init_5 nlX10_7 rfl (Nat.le_of_ble_eq_true rfl) (z_ok2 (by decide)) ?_
  show eb_P _ _ 8 [(0, .ref 0)] [.ref 1, .ref 0] (2, (sl.1 + 1, sl.2 + 2), _, _, _, _) _
  refine ep_dup dX10_init_8 rfl ?_
  refine ep_callI (M1 := mX9_init) (rest := [.ref 1, .ref 0]) dX10_init_9 mlX10_9 miX9_init rfl (Nat.le_of_ble_eq_true rfl) rfl (q_ini_t9 (d + 6) rfl) (fun _ _ _ => Or.inr (z_ok2 (n := 2) (by decide))) ?_
  rintro _ _ ⟨rfl, rfl⟩
  show eb_P _ _ 12 [(0, .ref 0)] [.ref 1, .ref 0] _ _
  show eb_P _ _ 12 [(0, .ref 0)] [.ref 1, .ref 0] (3, (sl.1 + 2, sl.2 + 82), _, _, _, _) _
  refine ep_putR dX10_init_12 plX10_10 (fun _ => rfl) (Nat.le_of_ble_eq_true rfl) hk (Or.inl (Nat.le_of_ble_eq_true rfl)) ?_
  refine ep_aload_n (i := 0) dX10_init_15 rfl rfl ?_
  refine ep_new (c := 4) (N := 2) dX10_init_16 nlX10_16 rfl (Nat.le_of_ble_eq_true rfl) (z_ok2 (by decide)) ?_
  show eb_P _ _ 19 [(0, .ref 0)] [.ref 3, .ref 0] (4, (sl.1 + 3, sl.2 + 84), _, _, _, _) _
  refine ep_dup dX10_init_19 rfl ?_
  refine ep_callI (M1 := mX4_init) (rest := [.ref 3, .ref 0]) dX10_init_20 mlX10_18 miX4_init rfl (Nat.le_of_ble_eq_true rfl) rfl (q_ini_t4 (d + 6) rfl) (fun _ _ _ => Or.inr (z_ok2 (n := 4) (by decide))) ?_
  rintro _ _ ⟨rfl, rfl⟩
  show eb_P _ _ 23 [(0, .ref 0)] [.ref 3, .ref 0] _ _
  show eb_P _ _ 23 [(0, .ref 0)] [.ref 3, .ref 0] (5, (sl.1 + 4, sl.2 + 92), _, _, _, _) _
  refine ep_putR dX10_init_23 plX10_19 (fun _ => rfl) (Nat.le_of_ble_eq_true rfl) hk (Or.inl (Nat.le_of_ble_eq_true rfl)) ?_
  refine ep_aload_n (i := 0) dX10_init_26 rfl rfl ?_
  refine ep_new (c := 6) (N := 9) dX10_init_27 nlX10_23 rfl (Nat.le_of_ble_eq_true rfl) (z_ok2 (by decide)) ?_
  show eb_P _ _ 30 [(0, .ref 0)] [.ref 5, .ref 0] (6, (sl.1 + 5, sl.2 + 101), _, _, _, _) _
  refine ep_dup dX10_init_30 rfl ?_
  refine ep_callI (M1 := mX6_init) (rest := [.ref 5, .ref 0]) dX10_init_31 mlX10_25 miX6_init rfl (Nat.le_of_ble_eq_true rfl) rfl (q_ini_t6 (d + 0) rfl (fun q => rfl)) (fun _ _ _ => Or.inr (z_ok2 (n := 6) (by decide))) ?_
  rintro _ _ ⟨rfl, Js, rfl, hse, hsf⟩
  show eb_P _ _ 34 [(0, .ref 0)] [.ref 5, .ref 0] _ _
  show eb_P _ _ 34 [(0, .ref 0)] [.ref 5, .ref 0] (21, (sl.1 + 20, sl.2 + 700), _, _, _, _) _
  refine ep_putR dX10_init_34 plX10_26 (fun _ => rfl) (Nat.le_of_ble_eq_true rfl) hk (Or.inl (Nat.le_of_ble_eq_true rfl)) ?_
  refine ep_aload_n (i := 0) dX10_init_37 rfl rfl ?_
  refine ep_new (c := 7) (N := 9) dX10_init_38 nlX10_30 rfl (Nat.le_of_ble_eq_true rfl) (z_ok2 (by decide)) ?_
  show eb_P _ _ 41 [(0, .ref 0)] [.ref 21, .ref 0] (22, (sl.1 + 21, sl.2 + 709), _, _, _, _) _
  refine ep_dup dX10_init_41 rfl ?_
  refine ep_callI (M1 := mX7_init) (rest := [.ref 21, .ref 0]) dX10_init_42 mlX10_32 miX7_init rfl (Nat.le_of_ble_eq_true rfl) rfl (q_ini_t7 (d + 6) (i := 21) (Nat.le_of_ble_eq_true rfl) rfl) (fun _ _ _ => Or.inr (z_ok2 (n := 22) (by decide))) ?_
  rintro _ _ ⟨rfl, rfl⟩
  show eb_P _ _ 45 [(0, .ref 0)] [.ref 21, .ref 0] _ _
  show eb_P _ _ 45 [(0, .ref 0)] [.ref 21, .ref 0] (25, (sl.1 + 24, sl.2 + 730), _, _, _, _) _
  refine ep_putR dX10_init_45 plX10_33 (fun _ => rfl) (Nat.le_of_ble_eq_true rfl) hk (Or.inl (Nat.le_of_ble_eq_true rfl)) ?_
  refine ep_aload_n (i := 0) dX10_init_48 rfl rfl ?_
  refine ep_new (c := 7) (N := 9) dX10_init_49 nlX10_30 rfl (Nat.le_of_ble_eq_true rfl) (z_ok2 (by decide)) ?_
  show eb_P _ _ 52 [(0, .ref 0)] [.ref 25, .ref 0] (26, (sl.1 + 25, sl.2 + 739), _, _, _, _) _
  refine ep_dup dX10_init_52 rfl ?_
  refine ep_callI (M1 := mX7_init) (rest := [.ref 25, .ref 0]) dX10_init_53 mlX10_32 miX7_init rfl (Nat.le_of_ble_eq_true rfl) rfl (q_ini_t7 (d + 6) (i := 25) (Nat.le_of_ble_eq_true rfl) rfl) (fun _ _ _ => Or.inr (z_ok2 (n := 26) (by decide))) ?_
  rintro _ _ ⟨rfl, rfl⟩
  show eb_P _ _ 56 [(0, .ref 0)] [.ref 25, .ref 0] _ _
  show eb_P _ _ 56 [(0, .ref 0)] [.ref 25, .ref 0] (29, (sl.1 + 28, sl.2 + 760), _, _, _, _) _
  refine ep_putR dX10_init_56 plX10_37 (fun _ => rfl) (Nat.le_of_ble_eq_true rfl) hk (Or.inl (Nat.le_of_ble_eq_true rfl)) ?_
  refine ep_aload_n (i := 0) dX10_init_59 rfl rfl ?_
  refine ep_new (c := 7) (N := 9) dX10_init_60 nlX10_30 rfl (Nat.le_of_ble_eq_true rfl) (z_ok2 (by decide)) ?_
  show eb_P _ _ 63 [(0, .ref 0)] [.ref 29, .ref 0] (30, (sl.1 + 29, sl.2 + 769), _, _, _, _) _
  refine ep_dup dX10_init_63 rfl ?_
  refine ep_callI (M1 := mX7_init) (rest := [.ref 29, .ref 0]) dX10_init_64 mlX10_32 miX7_init rfl (Nat.le_of_ble_eq_true rfl) rfl (q_ini_t7 (d + 6) (i := 29) (Nat.le_of_ble_eq_true rfl) rfl) (fun _ _ _ => Or.inr (z_ok2 (n := 30) (by decide))) ?_
  rintro _ _ ⟨rfl, rfl⟩
  show eb_P _ _ 67 [(0, .ref 0)] [.ref 29, .ref 0] _ _
  show eb_P _ _ 67 [(0, .ref 0)] [.ref 29, .ref 0] (33, (sl.1 + 32, sl.2 + 790), _, _, _, _) _
  refine ep_putR dX10_init_67 plX10_40 (fun _ => rfl) (Nat.le_of_ble_eq_true rfl) hk (Or.inl (Nat.le_of_ble_eq_true rfl)) ?_
  refine ep_aload_n (i := 0) dX10_init_70 rfl rfl ?_
  refine ep_new (c := 2) (N := 3) dX10_init_71 nlX10_43 rfl (Nat.le_of_ble_eq_true rfl) (z_ok2 (by decide)) ?_
  show eb_P _ _ 74 [(0, .ref 0)] [.ref 33, .ref 0] (34, (sl.1 + 33, sl.2 + 793), _, _, _, _) _
  refine ep_dup dX10_init_74 rfl ?_
  refine ep_callI (M1 := mX2_init) (rest := [.ref 33, .ref 0]) dX10_init_75 mlX10_45 miX2_init rfl (Nat.le_of_ble_eq_true rfl) rfl (q_ini_t2 (d + 5) rfl) (fun _ _ _ => Or.inr (z_ok2 (n := 34) (by decide))) ?_
  rintro _ _ ⟨rfl, rfl⟩
  show eb_P _ _ 78 [(0, .ref 0)] [.ref 33, .ref 0] _ _
  show eb_P _ _ 78 [(0, .ref 0)] [.ref 33, .ref 0] (83, (sl.1 + 82, sl.2 + 1165), _, _, _, _) _
  refine ep_putR dX10_init_78 plX10_46 (fun _ => rfl) (Nat.le_of_ble_eq_true rfl) hk (Or.inl (Nat.le_of_ble_eq_true rfl)) ?_
  refine ep_aload_n (i := 0) dX10_init_81 rfl rfl ?_
  refine ep_iconst (v := 2) dX10_init_82 (by decide) ?_
  refine ep_newq (N := 2) dX10_init_83 (eb_tb2 39 rfl rfl) (by decide) (by decide) (by decide) (Nat.le_of_ble_eq_true rfl) (z_ok2 (by decide)) ?_
  show eb_P _ _ 86 [(0, .ref 0)] [.ref 83, .ref 0] (84, (sl.1 + 83, sl.2 + 1167), _, _, _, _) _
  refine ep_dup dX10_init_86 rfl ?_
  refine ep_iconst (v := 0) dX10_init_87 (by decide) ?_
  refine ep_new (c := 7) (N := 9) dX10_init_88 nlX10_30 rfl (Nat.le_of_ble_eq_true rfl) (z_ok2 (by decide)) ?_
  show eb_P _ _ 91 [(0, .ref 0)] [.ref 84, .int 0, .ref 83, .ref 83, .ref 0] (85, (sl.1 + 84, sl.2 + 1176), _, _, _, _) _
  refine ep_dup dX10_init_91 rfl ?_
  refine ep_callI (M1 := mX7_init) (rest := [.ref 84, .int 0, .ref 83, .ref 83, .ref 0]) dX10_init_92 mlX10_32 miX7_init rfl (Nat.le_of_ble_eq_true rfl) rfl (q_ini_t7 (d + 6) (i := 84) (Nat.le_of_ble_eq_true rfl) rfl) (fun _ _ _ => Or.inr (z_ok2 (n := 85) (by decide))) ?_
  rintro _ _ ⟨rfl, rfl⟩
  show eb_P _ _ 95 [(0, .ref 0)] [.ref 84, .int 0, .ref 83, .ref 83, .ref 0] _ _
  show eb_P _ _ 95 [(0, .ref 0)] [.ref 84, .int 0, .ref 83, .ref 83, .ref 0] (88, (sl.1 + 87, sl.2 + 1197), _, _, _, _) _
  refine ep_aasN (k := 0) dX10_init_95 (Nat.le_of_ble_eq_true rfl) (len := 2) rfl (Nat.le_of_ble_eq_true rfl) rfl (by decide) (by decide) ?_
  refine ep_dup dX10_init_96 rfl ?_
  refine ep_iconst (v := 1) dX10_init_97 (by decide) ?_
  refine ep_new (c := 7) (N := 9) dX10_init_98 nlX10_30 rfl (Nat.le_of_ble_eq_true rfl) (z_ok2 (by decide)) ?_
  show eb_P _ _ 101 [(0, .ref 0)] [.ref 88, .int 1, .ref 83, .ref 83, .ref 0] (89, (sl.1 + 88, sl.2 + 1206), _, _, _, _) _
  refine ep_dup dX10_init_101 rfl ?_
  refine ep_callI (M1 := mX7_init) (rest := [.ref 88, .int 1, .ref 83, .ref 83, .ref 0]) dX10_init_102 mlX10_32 miX7_init rfl (Nat.le_of_ble_eq_true rfl) rfl (q_ini_t7 (d + 6) (i := 88) (Nat.le_of_ble_eq_true rfl) rfl) (fun _ _ _ => Or.inr (z_ok2 (n := 89) (by decide))) ?_
  rintro _ _ ⟨rfl, rfl⟩
  show eb_P _ _ 105 [(0, .ref 0)] [.ref 88, .int 1, .ref 83, .ref 83, .ref 0] _ _
  show eb_P _ _ 105 [(0, .ref 0)] [.ref 88, .int 1, .ref 83, .ref 83, .ref 0] (92, (sl.1 + 91, sl.2 + 1227), _, _, _, _) _
  refine ep_aasN (k := 1) dX10_init_105 (Nat.le_of_ble_eq_true rfl) (len := 2) rfl (Nat.le_of_ble_eq_true rfl) rfl (by decide) (by decide) ?_
  refine ep_putR dX10_init_106 plX10_50 (fun _ => rfl) (Nat.le_of_ble_eq_true rfl) hk (Or.inl (Nat.le_of_ble_eq_true rfl)) ?_
  refine ep_aload_n (i := 0) dX10_init_109 rfl rfl ?_
  refine ep_iconst (v := 2) dX10_init_110 (by decide) ?_
  refine ep_newa (t := 2) (N := 2) dX10_init_111 rfl ac_boolean (Or.inr (Or.inr (Or.inl ⟨rfl, rfl⟩))) (by decide) (by decide) (by decide) (Nat.le_of_ble_eq_true rfl) (z_ok2 (by decide)) ?_
  show eb_P _ _ 113 [(0, .ref 0)] [.ref 92, .ref 0] (93, (sl.1 + 92, sl.2 + 1229), _, _, _, _) _
  refine ep_putR dX10_init_113 plX10_54 (fun _ => rfl) (Nat.le_of_ble_eq_true rfl) hk (Or.inl (Nat.le_of_ble_eq_true rfl)) ?_
  refine ep_aload_n (i := 0) dX10_init_116 rfl rfl ?_
  refine ep_new (c := 8) (N := 4) dX10_init_117 nlX10_58 rfl (Nat.le_of_ble_eq_true rfl) (z_ok2 (by decide)) ?_
  show eb_P _ _ 120 [(0, .ref 0)] [.ref 93, .ref 0] (94, (sl.1 + 93, sl.2 + 1233), _, _, _, _) _
  refine ep_dup dX10_init_120 rfl ?_
  refine ep_bipush (v := 10) dX10_init_121 (by decide) ?_
  refine ep_callI (M1 := mX8_init) (rest := [.ref 93, .ref 0]) dX10_init_123 mlX10_60 miX8_init rfl (Nat.le_of_ble_eq_true rfl) rfl (q_ini_t8_93 (d + 6) rfl) (fun _ _ _ => Or.inr (z_ok2 (n := 94) (by decide))) ?_
  rintro _ _ ⟨rfl, rfl⟩
  show eb_P _ _ 126 [(0, .ref 0)] [.ref 93, .ref 0] _ _
  show eb_P _ _ 126 [(0, .ref 0)] [.ref 93, .ref 0] (97, (sl.1 + 96, sl.2 + 1263), _, _, _, _) _
  refine ep_putR dX10_init_126 plX10_63 (fun _ => rfl) (Nat.le_of_ble_eq_true rfl) hk (Or.inl (Nat.le_of_ble_eq_true rfl)) ?_
  refine ep_aload_n (i := 0) dX10_init_129 rfl rfl ?_
  refine ep_new (c := 8) (N := 4) dX10_init_130 nlX10_58 rfl (Nat.le_of_ble_eq_true rfl) (z_ok2 (by decide)) ?_
  show eb_P _ _ 133 [(0, .ref 0)] [.ref 97, .ref 0] (98, (sl.1 + 97, sl.2 + 1267), _, _, _, _) _
  refine ep_dup dX10_init_133 rfl ?_
  refine ep_bipush (v := 12) dX10_init_134 (by decide) ?_
  refine ep_callI (M1 := mX8_init) (rest := [.ref 97, .ref 0]) dX10_init_136 mlX10_60 miX8_init rfl (Nat.le_of_ble_eq_true rfl) rfl (q_ini_t8_97 (d + 6) rfl) (fun _ _ _ => Or.inr (z_ok2 (n := 98) (by decide))) ?_
  rintro _ _ ⟨rfl, rfl⟩
  show eb_P _ _ 139 [(0, .ref 0)] [.ref 97, .ref 0] _ _
  show eb_P _ _ 139 [(0, .ref 0)] [.ref 97, .ref 0] (101, (sl.1 + 100, sl.2 + 1303), _, _, _, _) _
  refine ep_putR dX10_init_139 plX10_67 (fun _ => rfl) (Nat.le_of_ble_eq_true rfl) hk (Or.inl (Nat.le_of_ble_eq_true rfl)) ?_
  refine ep_aload_n (i := 0) dX10_init_142 rfl rfl ?_
  refine ep_new (c := 1) (N := 1) dX10_init_143 nlX10_70 rfl (Nat.le_of_ble_eq_true rfl) (z_ok2 (by decide)) ?_
  show eb_P _ _ 146 [(0, .ref 0)] [.ref 101, .ref 0] (102, (sl.1 + 101, sl.2 + 1304), _, _, _, _) _
  refine ep_dup dX10_init_146 rfl ?_
  refine ep_callI (M1 := mX1_init) (rest := [.ref 101, .ref 0]) dX10_init_147 mlX10_72 miX1_init rfl (Nat.le_of_ble_eq_true rfl) rfl (q_ini_t1 (d + 6) rfl) (fun _ _ _ => Or.inr (z_ok2 (n := 102) (by decide))) ?_
  rintro _ _ ⟨rfl, rfl⟩
  show eb_P _ _ 150 [(0, .ref 0)] [.ref 101, .ref 0] _ _
  show eb_P _ _ 150 [(0, .ref 0)] [.ref 101, .ref 0] (102, (sl.1 + 101, sl.2 + 1304), _, _, _, _) _
  refine ep_putR dX10_init_150 plX10_73 (fun _ => rfl) (Nat.le_of_ble_eq_true rfl) hk (Or.inl (Nat.le_of_ble_eq_true rfl)) ?_
  refine ep_aload_n (i := 0) dX10_init_153 rfl rfl ?_
  refine ep_new (c := 0) (N := 3) dX10_init_154 nlX10_77 rfl (Nat.le_of_ble_eq_true rfl) (z_ok2 (by decide)) ?_
  show eb_P _ _ 157 [(0, .ref 0)] [.ref 102, .ref 0] (103, (sl.1 + 102, sl.2 + 1307), _, _, _, _) _
  refine ep_dup dX10_init_157 rfl ?_
  refine ep_callI (M1 := mX0_init) (rest := [.ref 102, .ref 0]) dX10_init_158 mlX10_79 miX0_init rfl (Nat.le_of_ble_eq_true rfl) rfl (q_ini_t0 (d + 6) rfl) (fun _ _ _ => Or.inr (z_ok2 (n := 103) (by decide))) ?_
  rintro _ _ ⟨rfl, rfl⟩
  show eb_P _ _ 161 [(0, .ref 0)] [.ref 102, .ref 0] _ _
  show eb_P _ _ 161 [(0, .ref 0)] [.ref 102, .ref 0] (105, (sl.1 + 104, sl.2 + 1389), _, _, _, _) _
  refine ep_putR dX10_init_161 plX10_80 (fun _ => rfl) (Nat.le_of_ble_eq_true rfl) hk (Or.inl (Nat.le_of_ble_eq_true rfl)) ?_
  refine ep_aload_n (i := 0) dX10_init_164 rfl rfl ?_
  refine ep_new (c := 3) (N := 2) dX10_init_165 nlX10_84 rfl (Nat.le_of_ble_eq_true rfl) (z_ok2 (by decide)) ?_
  show eb_P _ _ 168 [(0, .ref 0)] [.ref 105, .ref 0] (106, (sl.1 + 105, sl.2 + 1391), _, _, _, _) _
  refine ep_dup dX10_init_168 rfl ?_
  refine ep_callI (M1 := mX3_init) (rest := [.ref 105, .ref 0]) dX10_init_169 mlX10_86 miX3_init rfl (Nat.le_of_ble_eq_true rfl) rfl (q_ini_t3 (d + 6) rfl) (fun _ _ _ => Or.inr (z_ok2 (n := 106) (by decide))) ?_
  rintro _ _ ⟨rfl, rfl⟩
  show eb_P _ _ 172 [(0, .ref 0)] [.ref 105, .ref 0] _ _
  show eb_P _ _ 172 [(0, .ref 0)] [.ref 105, .ref 0] (108, (sl.1 + 107, sl.2 + 1906), _, _, _, _) _
  refine ep_putR dX10_init_172 plX10_87 (fun _ => rfl) (Nat.le_of_ble_eq_true rfl) hk (Or.inl (Nat.le_of_ble_eq_true rfl)) ?_
  refine ep_aload_n (i := 0) dX10_init_175 rfl rfl ?_
  refine ep_bipush (v := 7) dX10_init_176 (by decide) ?_
  refine ep_newa (t := 0) (N := 7) dX10_init_178 rfl ac_int (Or.inl ⟨rfl, rfl⟩) (by decide) (by decide) (by decide) (Nat.le_of_ble_eq_true rfl) (z_ok2 (by decide)) ?_
  show eb_P _ _ 180 [(0, .ref 0)] [.ref 108, .ref 0] (109, (sl.1 + 108, sl.2 + 1913), _, _, _, _) _
  refine ep_putR dX10_init_180 plX10_91 (fun _ => rfl) (Nat.le_of_ble_eq_true rfl) hk (Or.inl (Nat.le_of_ble_eq_true rfl)) ?_
  refine ep_aload_n (i := 0) dX10_init_183 rfl rfl ?_
  refine ep_bipush (v := 6) dX10_init_184 (by decide) ?_
  refine ep_newa (t := 0) (N := 6) dX10_init_186 rfl ac_int (Or.inl ⟨rfl, rfl⟩) (by decide) (by decide) (by decide) (Nat.le_of_ble_eq_true rfl) (z_ok2 (by decide)) ?_
  show eb_P _ _ 188 [(0, .ref 0)] [.ref 109, .ref 0] (110, (sl.1 + 109, sl.2 + 1919), _, _, _, _) _
  refine ep_putR dX10_init_188 plX10_95 (fun _ => rfl) (Nat.le_of_ble_eq_true rfl) hk (Or.inl (Nat.le_of_ble_eq_true rfl)) ?_
  refine ep_aload_n (i := 0) dX10_init_191 rfl rfl ?_
  refine ep_bipush (v := 6) dX10_init_192 (by decide) ?_
  refine ep_newa (t := 0) (N := 6) dX10_init_194 rfl ac_int (Or.inl ⟨rfl, rfl⟩) (by decide) (by decide) (by decide) (Nat.le_of_ble_eq_true rfl) (z_ok2 (by decide)) ?_
  show eb_P _ _ 196 [(0, .ref 0)] [.ref 110, .ref 0] (111, (sl.1 + 110, sl.2 + 1925), _, _, _, _) _
  refine ep_putR dX10_init_196 plX10_98 (fun _ => rfl) (Nat.le_of_ble_eq_true rfl) hk (Or.inl (Nat.le_of_ble_eq_true rfl)) ?_
  refine ep_aload_n (i := 0) dX10_init_199 rfl rfl ?_
  refine ep_sipush (v := 294) dX10_init_200 (by decide) ?_
  refine ep_newa (t := 0) (N := 294) dX10_init_203 rfl ac_int (Or.inl ⟨rfl, rfl⟩) (by decide) (by decide) (by decide) (Nat.le_of_ble_eq_true rfl) (z_ok2 (by decide)) ?_
  show eb_P _ _ 205 [(0, .ref 0)] [.ref 111, .ref 0] (112, (sl.1 + 111, sl.2 + 2219), _, _, _, _) _
  refine ep_putR dX10_init_205 plX10_101 (fun _ => rfl) (Nat.le_of_ble_eq_true rfl) hk (Or.inl (Nat.le_of_ble_eq_true rfl)) ?_
  refine ep_vret dX10_init_208 rfl ?_
  exact ⟨rfl, Js, rfl, hse, hsf⟩
def zKF (kd : Nat → Nat × Nat) : Nat → Nat × Nat := va_up (k_t11 (va_up (k_t10 (va_up kd 0 (10, 0))) 112 (11, 0))) 137 (23, 1)
def zRF (R : Nat → Nat → Option Nat) : Nat → Nat → Option Nat := z_zr (r_t11 (z_zr (r_t10 (z_zr R 0)) 112)) 137
def zIF (Js : Nat → Nat → Int32) : Nat → Nat → Int32 := z_zi (i_t11 (z_zi (i_t10 Js) 112)) 137
set_option maxRecDepth 100000 in
theorem zKF_l (kd : Nat → Nat × Nat) : (List.range 138).map (zKF kd) = zkd := rfl
set_option maxRecDepth 100000 in
theorem zRF_l (R : Nat → Nat → Option Nat) : zpt.map (fun p => zRF R p.1 p.2.1) = zpt.map (fun p => some p.2.2) := rfl
theorem zF_F (kd : Nat → Nat × Nat) (R : Nat → Nat → Option Nat) : zF 138 (zKF kd) (zRF R) := by
  refine ⟨Nat.le_refl _, by decide, fun c hc => ?_, fun k p e => ?_⟩
  · rw [← zKF_l kd, List.getD, List.getElem?_map, List.getElem?_range hc]; rfl
  · have h := congrArg (fun l => l[k]?) (zRF_l R)
    simp only [List.getElem?_map, e, Option.map_some, Option.some.injEq] at h
    exact h
