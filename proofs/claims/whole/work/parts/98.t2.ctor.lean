/-! constructors: the rules, the sea, the class -/
def zrv0 : (Nat → Int32) → Int32 := zrvM (fun _ => 0) 0
def zpr0 : Nat → Int32 := fun t => if t = 0 then 0 else if t = 1 then 1 else if t = 2 then 3 else if t = 3 then 5 else if t = 4 then 7 else 9
theorem zRu_0 {I : Nat → Nat → Int32} {a : Nat} (h : z_RI I a z_pln) : zRu I a zrv0 := zRu_rd (t := fun _ => 0) (m := 0) (fun q hq => absurd hq (Nat.not_lt_zero q)) (fun q hq => absurd hq (Nat.not_lt_zero q)) rfl h
/-- the sea's cells, as they are made -/
def zSe (J : Nat → Nat → Int32) : Prop := zRu J 8 zrv0 ∧ (∀ t, t < 6 → J 6 t = zpr0 t) ∧ J 5 2 = 1 ∧ J 7 0 = 0 ∧ J 5 8 = 0 ∧ (∀ q, J 19 q = 0) ∧ ∀ q, J 20 q = 0
theorem z_zi_ne {I : Nat → Nat → Int32} {n c : Nat} (h : c ≠ n) : z_zi I n c = I c := va_up_ne I _ h
theorem z_zi_at {I : Nat → Nat → Int32} {n q : Nat} : z_zi I n n q = 0 := by unfold z_zi; rw [va_up_self]
def k_t5_8 (kd : Nat → Nat × Nat) : Nat → Nat × Nat := (va_up (va_up (va_up (va_up kd 9 (20, 40)) 10 (20, 40)) 11 (20, 40)) 12 (22, 5))
def i_t5_8 (I : Nat → Nat → Int32) : Nat → Nat → Int32 := (z_zi (z_zi (z_zi (z_zi I 9) 10) 11) 12)
def l_t5_8 (L : Nat → Nat → Int64) : Nat → Nat → Int64 := (z_zl (z_zl (z_zl (z_zl L 9) 10) 11) 12)
def r_t5_8 (Rf : Nat → Nat → Option Nat) : Nat → Nat → Option Nat := (z_pR (z_zr (z_pR (z_zr (z_pR (z_zr (z_pR (z_zr Rf 9) 8 0 9) 10) 8 1 10) 11) 8 2 11) 12) 8 3 12)
theorem q_ini_t5_8 {sl : Nat × Nat} {kd : Nat → Nat × Nat} {I : Nat → Nat → Int32} {L : Nat → Nat → Int64} {Rf : Nat → Nat → Option Nat} (d : Nat) (hk : (kd 8).1 = 5) : eb_Q mX5_init (d + 6) [.ref 8] (9, sl, kd, I, L, Rf) (fun r τ => r = none ∧ ∃ I1, τ = (13, (sl.1 + 4, sl.2 + 125), k_t5_8 kd, I1, l_t5_8 L, r_t5_8 Rf) ∧ z_RI I1 8 z_pln ∧ z_only (z_rc 8) (i_t5_8 I) I1) := by
  refine ep_meth pn_X.2.2.2.2.2.1 (Nat.le_of_ble_eq_true rfl) ?_
  show eb_P _ _ 0 [(0, .ref 8)] [] (9, sl, kd, I, L, Rf) _
  refine ep_aload_n (i := 0) dX5_init_0 rfl rfl ?_
  refine ep_objI dX5_init_1 olX5_3 (Nat.le_of_ble_eq_true rfl) ?_
  refine ep_aload_n (i := 0) dX5_init_4 rfl rfl ?_
  refine ep_bipush (v := 40) dX5_init_5 (by decide) ?_
  refine ep_newa (t := 0) (N := 40) dX5_init_7 rfl ac_int (Or.inl ⟨rfl, rfl⟩) (by decide) (by decide) (by decide) (Nat.le_of_ble_eq_true rfl) (z_ok2 (by decide)) ?_
  show eb_P _ _ 9 [(0, .ref 8)] [.ref 9, .ref 8] (10, (sl.1 + 1, sl.2 + 40), _, _, _, _) _
  refine ep_putR dX5_init_9 plX5_11 (fun _ => rfl) (Nat.le_of_ble_eq_true rfl) hk (Or.inl (Nat.le_of_ble_eq_true rfl)) ?_
  refine ep_aload_n (i := 0) dX5_init_12 rfl rfl ?_
  refine ep_bipush (v := 40) dX5_init_13 (by decide) ?_
  refine ep_newa (t := 0) (N := 40) dX5_init_15 rfl ac_int (Or.inl ⟨rfl, rfl⟩) (by decide) (by decide) (by decide) (Nat.le_of_ble_eq_true rfl) (z_ok2 (by decide)) ?_
  show eb_P _ _ 17 [(0, .ref 8)] [.ref 10, .ref 8] (11, (sl.1 + 2, sl.2 + 80), _, _, _, _) _
  refine ep_putR dX5_init_17 plX5_15 (fun _ => rfl) (Nat.le_of_ble_eq_true rfl) hk (Or.inl (Nat.le_of_ble_eq_true rfl)) ?_
  refine ep_aload_n (i := 0) dX5_init_20 rfl rfl ?_
  refine ep_bipush (v := 40) dX5_init_21 (by decide) ?_
  refine ep_newa (t := 0) (N := 40) dX5_init_23 rfl ac_int (Or.inl ⟨rfl, rfl⟩) (by decide) (by decide) (by decide) (Nat.le_of_ble_eq_true rfl) (z_ok2 (by decide)) ?_
  show eb_P _ _ 25 [(0, .ref 8)] [.ref 11, .ref 8] (12, (sl.1 + 3, sl.2 + 120), _, _, _, _) _
  refine ep_putR dX5_init_25 plX5_18 (fun _ => rfl) (Nat.le_of_ble_eq_true rfl) hk (Or.inl (Nat.le_of_ble_eq_true rfl)) ?_
  refine ep_aload_n (i := 0) dX5_init_28 rfl rfl ?_
  refine ep_iconst (v := 5) dX5_init_29 (by decide) ?_
  refine ep_newa (t := 2) (N := 5) dX5_init_30 rfl ac_boolean (Or.inr (Or.inr (Or.inl ⟨rfl, rfl⟩))) (by decide) (by decide) (by decide) (Nat.le_of_ble_eq_true rfl) (z_ok2 (by decide)) ?_
  show eb_P _ _ 32 [(0, .ref 8)] [.ref 12, .ref 8] (13, (sl.1 + 4, sl.2 + 125), _, _, _, _) _
  refine ep_putR dX5_init_32 plX5_21 (fun _ => rfl) (Nat.le_of_ble_eq_true rfl) hk (Or.inl (Nat.le_of_ble_eq_true rfl)) ?_
  refine ep_aload_n (i := 0) dX5_init_35 rfl rfl ?_
  refine ep_callV (i := 8) (M1 := mX5_beThePlainOne) (rest := []) dX5_init_36 mlX5_25 mvX5_beThePlainOne rfl (Nat.le_of_ble_eq_true rfl) hk (Nat.le_of_ble_eq_true rfl) rfl (q_X5_beThePlainOne (d + 0) (i := 8) ⟨hk, rfl, rfl, rfl, rfl, rfl, rfl, rfl, rfl, Nat.le_of_ble_eq_true rfl, Nat.le_of_ble_eq_true rfl⟩) (fun _ _ _ => Or.inr (z_ok2 (n := 13) (by decide))) ?_
  rintro _ _ ⟨rfl, I1, rfl, hR, ho⟩
  show eb_P _ _ 39 [(0, .ref 8)] [] _ _
  refine ep_vret dX5_init_39 rfl ?_
  exact ⟨rfl, I1, rfl, hR, ho⟩
def k_t5_13 (kd : Nat → Nat × Nat) : Nat → Nat × Nat := (va_up (va_up (va_up (va_up kd 14 (20, 40)) 15 (20, 40)) 16 (20, 40)) 17 (22, 5))
def i_t5_13 (I : Nat → Nat → Int32) : Nat → Nat → Int32 := (z_zi (z_zi (z_zi (z_zi I 14) 15) 16) 17)
def l_t5_13 (L : Nat → Nat → Int64) : Nat → Nat → Int64 := (z_zl (z_zl (z_zl (z_zl L 14) 15) 16) 17)
def r_t5_13 (Rf : Nat → Nat → Option Nat) : Nat → Nat → Option Nat := (z_pR (z_zr (z_pR (z_zr (z_pR (z_zr (z_pR (z_zr Rf 14) 13 0 14) 15) 13 1 15) 16) 13 2 16) 17) 13 3 17)
theorem q_ini_t5_13 {sl : Nat × Nat} {kd : Nat → Nat × Nat} {I : Nat → Nat → Int32} {L : Nat → Nat → Int64} {Rf : Nat → Nat → Option Nat} (d : Nat) (hk : (kd 13).1 = 5) : eb_Q mX5_init (d + 6) [.ref 13] (14, sl, kd, I, L, Rf) (fun r τ => r = none ∧ ∃ I1, τ = (18, (sl.1 + 4, sl.2 + 125), k_t5_13 kd, I1, l_t5_13 L, r_t5_13 Rf) ∧ z_RI I1 13 z_pln ∧ z_only (z_rc 13) (i_t5_13 I) I1) := by
  refine ep_meth pn_X.2.2.2.2.2.1 (Nat.le_of_ble_eq_true rfl) ?_
  show eb_P _ _ 0 [(0, .ref 13)] [] (14, sl, kd, I, L, Rf) _
  refine ep_aload_n (i := 0) dX5_init_0 rfl rfl ?_
  refine ep_objI dX5_init_1 olX5_3 (Nat.le_of_ble_eq_true rfl) ?_
  refine ep_aload_n (i := 0) dX5_init_4 rfl rfl ?_
  refine ep_bipush (v := 40) dX5_init_5 (by decide) ?_
  refine ep_newa (t := 0) (N := 40) dX5_init_7 rfl ac_int (Or.inl ⟨rfl, rfl⟩) (by decide) (by decide) (by decide) (Nat.le_of_ble_eq_true rfl) (z_ok2 (by decide)) ?_
  show eb_P _ _ 9 [(0, .ref 13)] [.ref 14, .ref 13] (15, (sl.1 + 1, sl.2 + 40), _, _, _, _) _
  refine ep_putR dX5_init_9 plX5_11 (fun _ => rfl) (Nat.le_of_ble_eq_true rfl) hk (Or.inl (Nat.le_of_ble_eq_true rfl)) ?_
  refine ep_aload_n (i := 0) dX5_init_12 rfl rfl ?_
  refine ep_bipush (v := 40) dX5_init_13 (by decide) ?_
  refine ep_newa (t := 0) (N := 40) dX5_init_15 rfl ac_int (Or.inl ⟨rfl, rfl⟩) (by decide) (by decide) (by decide) (Nat.le_of_ble_eq_true rfl) (z_ok2 (by decide)) ?_
  show eb_P _ _ 17 [(0, .ref 13)] [.ref 15, .ref 13] (16, (sl.1 + 2, sl.2 + 80), _, _, _, _) _
  refine ep_putR dX5_init_17 plX5_15 (fun _ => rfl) (Nat.le_of_ble_eq_true rfl) hk (Or.inl (Nat.le_of_ble_eq_true rfl)) ?_
  refine ep_aload_n (i := 0) dX5_init_20 rfl rfl ?_
  refine ep_bipush (v := 40) dX5_init_21 (by decide) ?_
  refine ep_newa (t := 0) (N := 40) dX5_init_23 rfl ac_int (Or.inl ⟨rfl, rfl⟩) (by decide) (by decide) (by decide) (Nat.le_of_ble_eq_true rfl) (z_ok2 (by decide)) ?_
  show eb_P _ _ 25 [(0, .ref 13)] [.ref 16, .ref 13] (17, (sl.1 + 3, sl.2 + 120), _, _, _, _) _
  refine ep_putR dX5_init_25 plX5_18 (fun _ => rfl) (Nat.le_of_ble_eq_true rfl) hk (Or.inl (Nat.le_of_ble_eq_true rfl)) ?_
  refine ep_aload_n (i := 0) dX5_init_28 rfl rfl ?_
  refine ep_iconst (v := 5) dX5_init_29 (by decide) ?_
  refine ep_newa (t := 2) (N := 5) dX5_init_30 rfl ac_boolean (Or.inr (Or.inr (Or.inl ⟨rfl, rfl⟩))) (by decide) (by decide) (by decide) (Nat.le_of_ble_eq_true rfl) (z_ok2 (by decide)) ?_
  show eb_P _ _ 32 [(0, .ref 13)] [.ref 17, .ref 13] (18, (sl.1 + 4, sl.2 + 125), _, _, _, _) _
  refine ep_putR dX5_init_32 plX5_21 (fun _ => rfl) (Nat.le_of_ble_eq_true rfl) hk (Or.inl (Nat.le_of_ble_eq_true rfl)) ?_
  refine ep_aload_n (i := 0) dX5_init_35 rfl rfl ?_
  refine ep_callV (i := 13) (M1 := mX5_beThePlainOne) (rest := []) dX5_init_36 mlX5_25 mvX5_beThePlainOne rfl (Nat.le_of_ble_eq_true rfl) hk (Nat.le_of_ble_eq_true rfl) rfl (q_X5_beThePlainOne (d + 0) (i := 13) ⟨hk, rfl, rfl, rfl, rfl, rfl, rfl, rfl, rfl, Nat.le_of_ble_eq_true rfl, Nat.le_of_ble_eq_true rfl⟩) (fun _ _ _ => Or.inr (z_ok2 (n := 18) (by decide))) ?_
  rintro _ _ ⟨rfl, I1, rfl, hR, ho⟩
  show eb_P _ _ 39 [(0, .ref 13)] [] _ _
  refine ep_vret dX5_init_39 rfl ?_
  exact ⟨rfl, I1, rfl, hR, ho⟩
def k_t6 (kd : Nat → Nat × Nat) : Nat → Nat × Nat := (va_up (va_up (va_up (k_t5_13 (va_up (k_t5_8 (va_up (va_up (va_up kd 6 (20, 6)) 7 (20, 20)) 8 (5, 0))) 13 (5, 0))) 18 (20, 7)) 19 (20, 147)) 20 (20, 147))
def l_t6 (L : Nat → Nat → Int64) : Nat → Nat → Int64 := (z_zl (z_zl (z_zl (l_t5_13 (z_zl (l_t5_8 (z_zl (z_zl (z_zl L 6) 7) 8)) 13)) 18) 19) 20)
def r_t6 (Rf : Nat → Nat → Option Nat) : Nat → Nat → Option Nat := (z_pR (z_zr (z_pR (z_zr (z_pR (z_zr (z_pR (r_t5_13 (z_zr (z_pR (r_t5_8 (z_zr (z_pR (z_zr (z_pR (z_zr Rf 6) 5 0 6) 7) 5 1 7) 8)) 5 3 8) 13)) 5 4 13) 18) 5 5 18) 19) 5 6 19) 20) 5 7 20)
theorem q_ini_t6 {sl : Nat × Nat} {kd : Nat → Nat × Nat} {I : Nat → Nat → Int32} {L : Nat → Nat → Int64} {Rf : Nat → Nat → Option Nat} (d : Nat) (hk : (kd 5).1 = 6) (hz : ∀ q, I 5 q = 0) : eb_Q mX6_init (d + 7) [.ref 5] (6, sl, kd, I, L, Rf) (fun r τ => r = none ∧ ∃ J, τ = (21, (sl.1 + 15, sl.2 + 599), k_t6 kd, J, l_t6 L, r_t6 Rf) ∧ zSe J ∧ ∀ q, q < 5 ∨ 20 < q → J q = I q) := by
  refine ep_meth pn_X.2.2.2.2.2.2.1 (Nat.le_of_ble_eq_true rfl) ?_
  show eb_P _ _ 0 [(0, .ref 5)] [] (6, sl, kd, I, L, Rf) _
  refine ep_aload_n (i := 0) dX6_init_0 rfl rfl ?_
  refine ep_objI dX6_init_1 olX6_3 (Nat.le_of_ble_eq_true rfl) ?_
  refine ep_aload_n (i := 0) dX6_init_4 rfl rfl ?_
  refine ep_bipush (v := 6) dX6_init_5 (by decide) ?_
  refine ep_newa (t := 0) (N := 6) dX6_init_7 rfl ac_int (Or.inl ⟨rfl, rfl⟩) (by decide) (by decide) (by decide) (Nat.le_of_ble_eq_true rfl) (z_ok2 (by decide)) ?_
  show eb_P _ _ 9 [(0, .ref 5)] [.ref 6, .ref 5] (7, (sl.1 + 1, sl.2 + 6), _, _, _, _) _
  refine ep_dup dX6_init_9 rfl ?_
  refine ep_iconst (v := 0) dX6_init_10 (by decide) ?_
  refine ep_iconst (v := 0) dX6_init_11 (by decide) ?_
  refine ep_isN (k := 0) dX6_init_12 (Nat.le_of_ble_eq_true rfl) (Nat.le_of_ble_eq_true rfl) (len := 6) rfl (by decide) (by decide) ?_
  refine ep_dup dX6_init_13 rfl ?_
  refine ep_iconst (v := 1) dX6_init_14 (by decide) ?_
  refine ep_iconst (v := 1) dX6_init_15 (by decide) ?_
  refine ep_isN (k := 1) dX6_init_16 (Nat.le_of_ble_eq_true rfl) (Nat.le_of_ble_eq_true rfl) (len := 6) rfl (by decide) (by decide) ?_
  refine ep_dup dX6_init_17 rfl ?_
  refine ep_iconst (v := 2) dX6_init_18 (by decide) ?_
  refine ep_iconst (v := 3) dX6_init_19 (by decide) ?_
  refine ep_isN (k := 2) dX6_init_20 (Nat.le_of_ble_eq_true rfl) (Nat.le_of_ble_eq_true rfl) (len := 6) rfl (by decide) (by decide) ?_
  refine ep_dup dX6_init_21 rfl ?_
  refine ep_iconst (v := 3) dX6_init_22 (by decide) ?_
  refine ep_iconst (v := 5) dX6_init_23 (by decide) ?_
  refine ep_isN (k := 3) dX6_init_24 (Nat.le_of_ble_eq_true rfl) (Nat.le_of_ble_eq_true rfl) (len := 6) rfl (by decide) (by decide) ?_
  refine ep_dup dX6_init_25 rfl ?_
  refine ep_iconst (v := 4) dX6_init_26 (by decide) ?_
  refine ep_bipush (v := 7) dX6_init_27 (by decide) ?_
  refine ep_isN (k := 4) dX6_init_29 (Nat.le_of_ble_eq_true rfl) (Nat.le_of_ble_eq_true rfl) (len := 6) rfl (by decide) (by decide) ?_
  refine ep_dup dX6_init_30 rfl ?_
  refine ep_iconst (v := 5) dX6_init_31 (by decide) ?_
  refine ep_bipush (v := 9) dX6_init_32 (by decide) ?_
  refine ep_isN (k := 5) dX6_init_34 (Nat.le_of_ble_eq_true rfl) (Nat.le_of_ble_eq_true rfl) (len := 6) rfl (by decide) (by decide) ?_
  refine ep_putR dX6_init_35 plX6_9 (fun _ => rfl) (Nat.le_of_ble_eq_true rfl) hk (Or.inl (Nat.le_of_ble_eq_true rfl)) ?_
  refine ep_aload_n (i := 0) dX6_init_38 rfl rfl ?_
  refine ep_bipush (v := 20) dX6_init_39 (by decide) ?_
  refine ep_newa (t := 0) (N := 20) dX6_init_41 rfl ac_int (Or.inl ⟨rfl, rfl⟩) (by decide) (by decide) (by decide) (Nat.le_of_ble_eq_true rfl) (z_ok2 (by decide)) ?_
  show eb_P _ _ 43 [(0, .ref 5)] [.ref 7, .ref 5] (8, (sl.1 + 2, sl.2 + 26), _, _, _, _) _
  refine ep_putR dX6_init_43 plX6_15 (fun _ => rfl) (Nat.le_of_ble_eq_true rfl) hk (Or.inl (Nat.le_of_ble_eq_true rfl)) ?_
  refine ep_aload_n (i := 0) dX6_init_46 rfl rfl ?_
  refine ep_iconst (v := 1) dX6_init_47 (by decide) ?_
  refine ep_pI dX6_init_48 plX6_18 (Nat.le_of_ble_eq_true rfl) (Nat.le_of_ble_eq_true rfl) hk rfl rfl ?_
  refine ep_aload_n (i := 0) dX6_init_51 rfl rfl ?_
  refine ep_new (c := 5) (N := 11) dX6_init_52 nlX6_22 rfl (Nat.le_of_ble_eq_true rfl) (z_ok2 (by decide)) ?_
  show eb_P _ _ 55 [(0, .ref 5)] [.ref 8, .ref 5] (9, (sl.1 + 3, sl.2 + 37), _, _, _, _) _
  refine ep_dup dX6_init_55 rfl ?_
  refine ep_callI (M1 := mX5_init) (rest := [.ref 8, .ref 5]) dX6_init_56 mlX6_24 miX5_init rfl (Nat.le_of_ble_eq_true rfl) rfl (q_ini_t5_8 (d + 0) rfl) (fun _ _ _ => Or.inr (z_ok2 (n := 9) (by decide))) ?_
  rintro _ _ ⟨rfl, Ia, rfl, hR8, ho8⟩
  show eb_P _ _ 59 [(0, .ref 5)] [.ref 8, .ref 5] _ _
  show eb_P _ _ 59 [(0, .ref 5)] [.ref 8, .ref 5] (13, (sl.1 + 7, sl.2 + 162), _, _, _, _) _
  refine ep_putR dX6_init_59 plX6_25 (fun h => by cases h) (Nat.le_of_ble_eq_true rfl) hk (Or.inl (Nat.le_of_ble_eq_true rfl)) ?_
  refine ep_aload_n (i := 0) dX6_init_62 rfl rfl ?_
  refine ep_new (c := 5) (N := 11) dX6_init_63 nlX6_22 rfl (Nat.le_of_ble_eq_true rfl) (z_ok2 (by decide)) ?_
  show eb_P _ _ 66 [(0, .ref 5)] [.ref 13, .ref 5] (14, (sl.1 + 8, sl.2 + 173), _, _, _, _) _
  refine ep_dup dX6_init_66 rfl ?_
  refine ep_callI (M1 := mX5_init) (rest := [.ref 13, .ref 5]) dX6_init_67 mlX6_24 miX5_init rfl (Nat.le_of_ble_eq_true rfl) rfl (q_ini_t5_13 (d + 0) rfl) (fun _ _ _ => Or.inr (z_ok2 (n := 14) (by decide))) ?_
  rintro _ _ ⟨rfl, Ib, rfl, hR13, ho13⟩
  show eb_P _ _ 70 [(0, .ref 5)] [.ref 13, .ref 5] _ _
  show eb_P _ _ 70 [(0, .ref 5)] [.ref 13, .ref 5] (18, (sl.1 + 12, sl.2 + 298), _, _, _, _) _
  refine ep_putR dX6_init_70 plX6_29 (fun h => by cases h) (Nat.le_of_ble_eq_true rfl) hk (Or.inl (Nat.le_of_ble_eq_true rfl)) ?_
  refine ep_aload_n (i := 0) dX6_init_73 rfl rfl ?_
  refine ep_bipush (v := 7) dX6_init_74 (by decide) ?_
  refine ep_newa (t := 0) (N := 7) dX6_init_76 rfl ac_int (Or.inl ⟨rfl, rfl⟩) (by decide) (by decide) (by decide) (Nat.le_of_ble_eq_true rfl) (z_ok2 (by decide)) ?_
  show eb_P _ _ 78 [(0, .ref 5)] [.ref 18, .ref 5] (19, (sl.1 + 13, sl.2 + 305), _, _, _, _) _
  refine ep_putR dX6_init_78 plX6_32 (fun _ => rfl) (Nat.le_of_ble_eq_true rfl) hk (Or.inl (Nat.le_of_ble_eq_true rfl)) ?_
  refine ep_aload_n (i := 0) dX6_init_81 rfl rfl ?_
  refine ep_sipush (v := 147) dX6_init_82 (by decide) ?_
  refine ep_newa (t := 0) (N := 147) dX6_init_85 rfl ac_int (Or.inl ⟨rfl, rfl⟩) (by decide) (by decide) (by decide) (Nat.le_of_ble_eq_true rfl) (z_ok2 (by decide)) ?_
  show eb_P _ _ 87 [(0, .ref 5)] [.ref 19, .ref 5] (20, (sl.1 + 14, sl.2 + 452), _, _, _, _) _
  refine ep_putR dX6_init_87 plX6_35 (fun _ => rfl) (Nat.le_of_ble_eq_true rfl) hk (Or.inl (Nat.le_of_ble_eq_true rfl)) ?_
  refine ep_aload_n (i := 0) dX6_init_90 rfl rfl ?_
  refine ep_sipush (v := 147) dX6_init_91 (by decide) ?_
  refine ep_newa (t := 0) (N := 147) dX6_init_94 rfl ac_int (Or.inl ⟨rfl, rfl⟩) (by decide) (by decide) (by decide) (Nat.le_of_ble_eq_true rfl) (z_ok2 (by decide)) ?_
  show eb_P _ _ 96 [(0, .ref 5)] [.ref 20, .ref 5] (21, (sl.1 + 15, sl.2 + 599), _, _, _, _) _
  refine ep_putR dX6_init_96 plX6_38 (fun _ => rfl) (Nat.le_of_ble_eq_true rfl) hk (Or.inl (Nat.le_of_ble_eq_true rfl)) ?_
  refine ep_vret dX6_init_99 rfl ?_
  have e13 : ∀ q, ¬ z_rc 13 q → Ib q = i_t5_13 (z_zi Ia 13) q := fun q hq => ho13 q hq
  have e8 : ∀ q, ¬ z_rc 8 q → Ia q = i_t5_8 (z_zi (z_set (z_zi (z_set (z_set (z_set (z_set (z_set (z_set (z_zi I 6) 6 0 0) 6 1 1) 6 2 3) 6 3 5) 6 4 7) 6 5 9) 7) 5 2 1) 8) q := fun q hq => ho8 q hq
  have eb : ∀ q, q < 13 ∨ 17 < q → Ib q = Ia q := fun q hq => by
    rw [e13 q (fun g => by unfold z_rc at g; omega)]
    unfold i_t5_13
    repeat rw [z_zi_ne (by omega)]
  have ea : ∀ q, q < 8 ∨ 12 < q → Ia q = (z_zi (z_set (z_zi (z_set (z_set (z_set (z_set (z_set (z_set (z_zi I 6) 6 0 0) 6 1 1) 6 2 3) 6 3 5) 6 4 7) 6 5 9) 7) 5 2 1) 8) q := fun q hq => by
    rw [e8 q (fun g => by unfold z_rc at g; omega)]
    unfold i_t5_8
    repeat rw [z_zi_ne (by omega)]
  have et : ∀ q, q < 18 ∨ 20 < q → (z_zi (z_zi (z_zi Ib 18) 19) 20) q = Ib q := fun q hq => by
    repeat rw [z_zi_ne (by omega)]
  refine ⟨rfl, _, rfl, ⟨(zRu_0 hR8).cg ?_ ?_, fun t ht => ?_, ?_, ?_, ?_, fun q => ?_, fun q => ?_⟩, fun q hq => ?_⟩
  · exact (et 8 (by omega)).trans (eb 8 (by omega))
  · exact (et 9 (by omega)).trans (eb 9 (by omega))
  · refine (congrFun ((et 6 (by omega)).trans ((eb 6 (by omega)).trans (ea 6 (by omega)))) t).trans ?_
    rcases (by omega : t = 0 ∨ t = 1 ∨ t = 2 ∨ t = 3 ∨ t = 4 ∨ t = 5) with rfl | rfl | rfl | rfl | rfl | rfl <;> rfl
  · exact (congrFun ((et 5 (by omega)).trans ((eb 5 (by omega)).trans (ea 5 (by omega)))) 2).trans rfl
  · exact (congrFun ((et 7 (by omega)).trans ((eb 7 (by omega)).trans (ea 7 (by omega)))) 0).trans rfl
  · exact (congrFun ((et 5 (by omega)).trans ((eb 5 (by omega)).trans (ea 5 (by omega)))) 8).trans (hz 8)
  · rfl
  · rfl
  · refine (et q (by omega)).trans ((eb q (by omega)).trans ((ea q (by omega)).trans ?_))
    repeat first | rw [z_zi_ne (by omega)] | rw [z_set_ne (by omega)]
