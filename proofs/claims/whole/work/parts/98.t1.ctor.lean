/-! constructors, on exact memories -/
def z_zi (I : Nat → Nat → Int32) (n : Nat) : Nat → Nat → Int32 := va_up I n (fun _ => 0)
def z_zl (L : Nat → Nat → Int64) (n : Nat) : Nat → Nat → Int64 := va_up L n (fun _ => 0)
def z_zr (R : Nat → Nat → Option Nat) (n : Nat) : Nat → Nat → Option Nat := va_up R n (fun _ => none)
def z_pR (R : Nat → Nat → Option Nat) (i k j : Nat) : Nat → Nat → Option Nat := va_up R i (va_up (R i) k (some j))
def z_okb (n : Nat) (v : Value) : Bool := match v with
  | .ref j => decide (j < n) || decide (1000000 ≤ j)
  | _ => true
theorem z_okv {n : Nat} {v : Value} (h : z_okb n v = true) : eb_okv n v := by
  cases v <;> first | trivial | (simp only [z_okb, Bool.or_eq_true, decide_eq_true_eq] at h; exact h)
theorem z_ok2 {n : Nat} {l : List (Nat × Value)} {st : List Value} (h : (l.all (fun q => z_okb n q.2) && st.all (z_okb n)) = true) : (∀ q ∈ l, eb_okv n q.2) ∧ ∀ v ∈ st, eb_okv n v := by
  rw [Bool.and_eq_true, List.all_eq_true, List.all_eq_true] at h
  exact ⟨fun q hq => z_okv (h.1 q hq), fun v hv => z_okv (h.2 v hv)⟩
theorem ep_aasN {M : eb_M} {d pc : Nat} {l : List (Nat × Value)} {st : List Value} {Φ : Option Value → eb_S → Prop} {n : Nat} {sl : Nat × Nat} {kd : Nat → Nat × Nat} {I : Nat → Nat → Int32} {L : Nat → Nat → Int64} {Rf : Nat → Nat → Option Nat} {i len v k : Nat} (hd : decode M.2.1 pc = .ok (.aastore, 1)) (hi : i < n) (hk : kd i = (24, len)) (hv : v < n) (hkv : (kd v).1 = 7) (hlt : k < len) (hl : len < 2147483648) (kk : eb_P M d (pc + 1) l st (n, sl, kd, I, L, z_pR Rf i k v) Φ) : eb_P M d pc l (.ref v :: .int (nI k) :: .ref i :: st) (n, sl, kd, I, L, Rf) Φ :=
  ep_aast hd hi hk hv hkv (vp_in_nI hlt hl) (by rw [nI_clamp (by omega)]; exact kk)
def k_t9 (kd : Nat → Nat × Nat) : Nat → Nat × Nat := (va_up kd 2 (20, 80))
def i_t9 (I : Nat → Nat → Int32) : Nat → Nat → Int32 := (z_zi I 2)
def l_t9 (L : Nat → Nat → Int64) : Nat → Nat → Int64 := (z_zl L 2)
def r_t9 (Rf : Nat → Nat → Option Nat) : Nat → Nat → Option Nat := (z_pR (z_zr Rf 2) 1 0 2)
theorem q_ini_t9 {sl : Nat × Nat} {kd : Nat → Nat × Nat} {I : Nat → Nat → Int32} {L : Nat → Nat → Int64} {Rf : Nat → Nat → Option Nat} (d : Nat) (hk : (kd 1).1 = 9) : eb_Q mX9_init (d + 1) [.ref 1] (2, sl, kd, I, L, Rf) (eb_v (3, (sl.1 + 1, sl.2 + 80), k_t9 kd, i_t9 I, l_t9 L, r_t9 Rf)) := by
  refine ep_meth pn_X.2.2.2.2.2.2.2.2.2.1 (Nat.le_of_ble_eq_true rfl) ?_
  show eb_P _ _ 0 [(0, .ref 1)] [] (2, sl, kd, I, L, Rf) _
  refine ep_aload_n (i := 0) dX9_init_0 rfl rfl ?_
  refine ep_objI dX9_init_1 olX9_3 (Nat.le_of_ble_eq_true rfl) ?_
  refine ep_aload_n (i := 0) dX9_init_4 rfl rfl ?_
  refine ep_bipush (v := 80) dX9_init_5 (by decide) ?_
  refine ep_newa (t := 0) (N := 80) dX9_init_7 rfl ac_int (Or.inl ⟨rfl, rfl⟩) (by decide) (by decide) (by decide) (Nat.le_of_ble_eq_true rfl) (z_ok2 (by decide)) ?_
  show eb_P _ _ 9 [(0, .ref 1)] [.ref 2, .ref 1] (3, (sl.1 + 1, sl.2 + 80), _, _, _, _) _
  refine ep_putR dX9_init_9 plX9_9 (fun _ => rfl) (Nat.le_of_ble_eq_true rfl) hk (Or.inl (Nat.le_of_ble_eq_true rfl)) ?_
  refine ep_vret dX9_init_12 rfl ?_
  exact ⟨rfl, rfl⟩
def k_t4 (kd : Nat → Nat × Nat) : Nat → Nat × Nat := (va_up kd 4 (23, 8))
def i_t4 (I : Nat → Nat → Int32) : Nat → Nat → Int32 := (z_zi I 4)
def l_t4 (L : Nat → Nat → Int64) : Nat → Nat → Int64 := (z_zl L 4)
def r_t4 (Rf : Nat → Nat → Option Nat) : Nat → Nat → Option Nat := (z_pR (z_zr Rf 4) 3 0 4)
theorem q_ini_t4 {sl : Nat × Nat} {kd : Nat → Nat × Nat} {I : Nat → Nat → Int32} {L : Nat → Nat → Int64} {Rf : Nat → Nat → Option Nat} (d : Nat) (hk : (kd 3).1 = 4) : eb_Q mX4_init (d + 1) [.ref 3] (4, sl, kd, I, L, Rf) (eb_v (5, (sl.1 + 1, sl.2 + 8), k_t4 kd, i_t4 I, l_t4 L, r_t4 Rf)) := by
  refine ep_meth pn_X.2.2.2.2.1 (Nat.le_of_ble_eq_true rfl) ?_
  show eb_P _ _ 0 [(0, .ref 3)] [] (4, sl, kd, I, L, Rf) _
  refine ep_aload_n (i := 0) dX4_init_0 rfl rfl ?_
  refine ep_objI dX4_init_1 olX4_1 (Nat.le_of_ble_eq_true rfl) ?_
  refine ep_aload_n (i := 0) dX4_init_4 rfl rfl ?_
  refine ep_bipush (v := 8) dX4_init_5 (by decide) ?_
  refine ep_newa (t := 3) (N := 8) dX4_init_7 rfl ac_long (Or.inr (Or.inr (Or.inr ⟨rfl, rfl⟩))) (by decide) (by decide) (by decide) (Nat.le_of_ble_eq_true rfl) (z_ok2 (by decide)) ?_
  show eb_P _ _ 9 [(0, .ref 3)] [.ref 4, .ref 3] (5, (sl.1 + 1, sl.2 + 8), _, _, _, _) _
  refine ep_putR dX4_init_9 plX4_7 (fun _ => rfl) (Nat.le_of_ble_eq_true rfl) hk (Or.inl (Nat.le_of_ble_eq_true rfl)) ?_
  refine ep_vret dX4_init_12 rfl ?_
  exact ⟨rfl, rfl⟩
def k_t7 (kd : Nat → Nat × Nat) (i : Nat) : Nat → Nat × Nat := (va_up (va_up (va_up kd (i + 1) (20, 7)) (i + 2) (20, 7)) (i + 3) (20, 7))
def i_t7 (I : Nat → Nat → Int32) (i : Nat) : Nat → Nat → Int32 := (z_set (z_zi (z_zi (z_zi I (i + 1)) (i + 2)) (i + 3)) i 4 5)
def l_t7 (L : Nat → Nat → Int64) (i : Nat) : Nat → Nat → Int64 := (z_zl (z_zl (z_zl L (i + 1)) (i + 2)) (i + 3))
def r_t7 (Rf : Nat → Nat → Option Nat) (i : Nat) : Nat → Nat → Option Nat := (z_pR (z_zr (z_pR (z_zr (z_pR (z_zr Rf (i + 1)) i 0 (i + 1)) (i + 2)) i 1 (i + 2)) (i + 3)) i 2 (i + 3))
theorem q_ini_t7 {sl : Nat × Nat} {kd : Nat → Nat × Nat} {I : Nat → Nat → Int32} {L : Nat → Nat → Int64} {Rf : Nat → Nat → Option Nat} (d : Nat) {i : Nat} (hX : i + 8 < 1000000) (hk : (kd i).1 = 7) : eb_Q mX7_init (d + 1) [.ref i] ((i + 1), sl, kd, I, L, Rf) (eb_v ((i + 4), (sl.1 + 3, sl.2 + 21), k_t7 kd i, i_t7 I i, l_t7 L i, r_t7 Rf i)) := by
  refine ep_meth pn_X.2.2.2.2.2.2.2.1 (Nat.le_of_ble_eq_true rfl) ?_
  show eb_P _ _ 0 [(0, .ref i)] [] ((i + 1), sl, kd, I, L, Rf) _
  refine ep_aload_n (i := 0) dX7_init_0 rfl rfl ?_
  refine ep_objI dX7_init_1 olX7_3 (Nat.le_of_ble_eq_true rfl) ?_
  refine ep_aload_n (i := 0) dX7_init_4 rfl rfl ?_
  refine ep_bipush (v := 7) dX7_init_5 (by decide) ?_
  refine ep_newa (t := 0) (N := 7) dX7_init_7 rfl ac_int (Or.inl ⟨rfl, rfl⟩) (by decide) (by decide) (by decide) (by omega) ⟨fun q hq => by rw [List.mem_singleton.mp hq]; show i < _ ∨ 1000000 ≤ i; omega, fun v hv => by rw [List.mem_singleton.mp hv]; show i < _ ∨ 1000000 ≤ i; omega⟩ ?_
  show eb_P _ _ 9 [(0, .ref i)] [.ref ((i + 1)), .ref i] ((i + 2), (sl.1 + 1, sl.2 + 7), _, _, _, _) _
  refine ep_putR dX7_init_9 plX7_9 (fun _ => rfl) (by omega) (by rw [va_up_ne _ _ (by omega)]; exact hk) (Or.inl (by omega)) ?_
  refine ep_aload_n (i := 0) dX7_init_12 rfl rfl ?_
  refine ep_bipush (v := 7) dX7_init_13 (by decide) ?_
  refine ep_newa (t := 0) (N := 7) dX7_init_15 rfl ac_int (Or.inl ⟨rfl, rfl⟩) (by decide) (by decide) (by decide) (by omega) ⟨fun q hq => by rw [List.mem_singleton.mp hq]; show i < _ ∨ 1000000 ≤ i; omega, fun v hv => by rw [List.mem_singleton.mp hv]; show i < _ ∨ 1000000 ≤ i; omega⟩ ?_
  show eb_P _ _ 17 [(0, .ref i)] [.ref ((i + 2)), .ref i] ((i + 3), (sl.1 + 2, sl.2 + 14), _, _, _, _) _
  refine ep_putR dX7_init_17 plX7_15 (fun _ => rfl) (by omega) (by rw [va_up_ne _ _ (by omega), va_up_ne _ _ (by omega)]; exact hk) (Or.inl (by omega)) ?_
  refine ep_aload_n (i := 0) dX7_init_20 rfl rfl ?_
  refine ep_bipush (v := 7) dX7_init_21 (by decide) ?_
  refine ep_newa (t := 0) (N := 7) dX7_init_23 rfl ac_int (Or.inl ⟨rfl, rfl⟩) (by decide) (by decide) (by decide) (by omega) ⟨fun q hq => by rw [List.mem_singleton.mp hq]; show i < _ ∨ 1000000 ≤ i; omega, fun v hv => by rw [List.mem_singleton.mp hv]; show i < _ ∨ 1000000 ≤ i; omega⟩ ?_
  show eb_P _ _ 25 [(0, .ref i)] [.ref ((i + 3)), .ref i] ((i + 4), (sl.1 + 3, sl.2 + 21), _, _, _, _) _
  refine ep_putR dX7_init_25 plX7_18 (fun _ => rfl) (by omega) (by rw [va_up_ne _ _ (by omega), va_up_ne _ _ (by omega), va_up_ne _ _ (by omega)]; exact hk) (Or.inl (by omega)) ?_
  refine ep_aload_n (i := 0) dX7_init_28 rfl rfl ?_
  refine ep_iconst (v := 5) dX7_init_29 (by decide) ?_
  refine ep_pI dX7_init_30 plX7_21 (by omega) (by omega) (by rw [va_up_ne _ _ (by omega), va_up_ne _ _ (by omega), va_up_ne _ _ (by omega)]; exact hk) rfl rfl ?_
  refine ep_vret dX7_init_33 rfl ?_
  exact ⟨rfl, rfl⟩
def k_t8_93 (kd : Nat → Nat × Nat) : Nat → Nat × Nat := (va_up (va_up (va_up kd 94 (20, 10)) 95 (20, 10)) 96 (20, 10))
def i_t8_93 (I : Nat → Nat → Int32) : Nat → Nat → Int32 := (z_zi (z_zi (z_zi I 94) 95) 96)
def l_t8_93 (L : Nat → Nat → Int64) : Nat → Nat → Int64 := (z_zl (z_zl (z_zl L 94) 95) 96)
def r_t8_93 (Rf : Nat → Nat → Option Nat) : Nat → Nat → Option Nat := (z_pR (z_zr (z_pR (z_zr (z_pR (z_zr Rf 94) 93 0 94) 95) 93 1 95) 96) 93 2 96)
theorem q_ini_t8_93 {sl : Nat × Nat} {kd : Nat → Nat × Nat} {I : Nat → Nat → Int32} {L : Nat → Nat → Int64} {Rf : Nat → Nat → Option Nat} (d : Nat) (hk : (kd 93).1 = 8) : eb_Q mX8_init (d + 1) [.ref 93, .int 10] (94, sl, kd, I, L, Rf) (eb_v (97, (sl.1 + 3, sl.2 + 30), k_t8_93 kd, i_t8_93 I, l_t8_93 L, r_t8_93 Rf)) := by
  refine ep_meth pn_X.2.2.2.2.2.2.2.2.1 (Nat.le_of_ble_eq_true rfl) ?_
  show eb_P _ _ 0 [(0, .ref 93), (1, .int 10)] [] (94, sl, kd, I, L, Rf) _
  refine ep_aload_n (i := 0) dX8_init_0 rfl rfl ?_
  refine ep_objI dX8_init_1 olX8_1 (Nat.le_of_ble_eq_true rfl) ?_
  refine ep_iconst (v := 0) dX8_init_4 (by decide) ?_
  refine ep_iload_n (i := 1) dX8_init_5 rfl rfl ?_
  refine ep_max dX8_init_6 xmX8_7 (Nat.le_of_ble_eq_true rfl) ?_
  refine ep_topE (y := 10) (by decide) ?_
  refine ep_istore_n (l' := [(2, .int 10), (0, .ref 93), (1, .int 10)]) dX8_init_9 rfl (by decide) rfl ?_
  refine ep_aload_n (i := 0) dX8_init_10 rfl rfl ?_
  refine ep_iload_n (i := 2) dX8_init_11 rfl rfl ?_
  refine ep_newa (t := 0) (N := 10) dX8_init_12 rfl ac_int (Or.inl ⟨rfl, rfl⟩) (by decide) (by decide) (by decide) (Nat.le_of_ble_eq_true rfl) (z_ok2 (by decide)) ?_
  show eb_P _ _ 14 [(2, .int 10), (0, .ref 93), (1, .int 10)] [.ref 94, .ref 93] (95, (sl.1 + 1, sl.2 + 10), _, _, _, _) _
  refine ep_putR dX8_init_14 plX8_13 (fun _ => rfl) (Nat.le_of_ble_eq_true rfl) hk (Or.inl (Nat.le_of_ble_eq_true rfl)) ?_
  refine ep_aload_n (i := 0) dX8_init_17 rfl rfl ?_
  refine ep_iload_n (i := 2) dX8_init_18 rfl rfl ?_
  refine ep_newa (t := 0) (N := 10) dX8_init_19 rfl ac_int (Or.inl ⟨rfl, rfl⟩) (by decide) (by decide) (by decide) (Nat.le_of_ble_eq_true rfl) (z_ok2 (by decide)) ?_
  show eb_P _ _ 21 [(2, .int 10), (0, .ref 93), (1, .int 10)] [.ref 95, .ref 93] (96, (sl.1 + 2, sl.2 + 20), _, _, _, _) _
  refine ep_putR dX8_init_21 plX8_19 (fun _ => rfl) (Nat.le_of_ble_eq_true rfl) hk (Or.inl (Nat.le_of_ble_eq_true rfl)) ?_
  refine ep_aload_n (i := 0) dX8_init_24 rfl rfl ?_
  refine ep_iload_n (i := 2) dX8_init_25 rfl rfl ?_
  refine ep_newa (t := 0) (N := 10) dX8_init_26 rfl ac_int (Or.inl ⟨rfl, rfl⟩) (by decide) (by decide) (by decide) (Nat.le_of_ble_eq_true rfl) (z_ok2 (by decide)) ?_
  show eb_P _ _ 28 [(2, .int 10), (0, .ref 93), (1, .int 10)] [.ref 96, .ref 93] (97, (sl.1 + 3, sl.2 + 30), _, _, _, _) _
  refine ep_putR dX8_init_28 plX8_22 (fun _ => rfl) (Nat.le_of_ble_eq_true rfl) hk (Or.inl (Nat.le_of_ble_eq_true rfl)) ?_
  refine ep_vret dX8_init_31 rfl ?_
  exact ⟨rfl, rfl⟩
def k_t8_97 (kd : Nat → Nat × Nat) : Nat → Nat × Nat := (va_up (va_up (va_up kd 98 (20, 12)) 99 (20, 12)) 100 (20, 12))
def i_t8_97 (I : Nat → Nat → Int32) : Nat → Nat → Int32 := (z_zi (z_zi (z_zi I 98) 99) 100)
def l_t8_97 (L : Nat → Nat → Int64) : Nat → Nat → Int64 := (z_zl (z_zl (z_zl L 98) 99) 100)
def r_t8_97 (Rf : Nat → Nat → Option Nat) : Nat → Nat → Option Nat := (z_pR (z_zr (z_pR (z_zr (z_pR (z_zr Rf 98) 97 0 98) 99) 97 1 99) 100) 97 2 100)
theorem q_ini_t8_97 {sl : Nat × Nat} {kd : Nat → Nat × Nat} {I : Nat → Nat → Int32} {L : Nat → Nat → Int64} {Rf : Nat → Nat → Option Nat} (d : Nat) (hk : (kd 97).1 = 8) : eb_Q mX8_init (d + 1) [.ref 97, .int 12] (98, sl, kd, I, L, Rf) (eb_v (101, (sl.1 + 3, sl.2 + 36), k_t8_97 kd, i_t8_97 I, l_t8_97 L, r_t8_97 Rf)) := by
  refine ep_meth pn_X.2.2.2.2.2.2.2.2.1 (Nat.le_of_ble_eq_true rfl) ?_
  show eb_P _ _ 0 [(0, .ref 97), (1, .int 12)] [] (98, sl, kd, I, L, Rf) _
  refine ep_aload_n (i := 0) dX8_init_0 rfl rfl ?_
  refine ep_objI dX8_init_1 olX8_1 (Nat.le_of_ble_eq_true rfl) ?_
  refine ep_iconst (v := 0) dX8_init_4 (by decide) ?_
  refine ep_iload_n (i := 1) dX8_init_5 rfl rfl ?_
  refine ep_max dX8_init_6 xmX8_7 (Nat.le_of_ble_eq_true rfl) ?_
  refine ep_topE (y := 12) (by decide) ?_
  refine ep_istore_n (l' := [(2, .int 12), (0, .ref 97), (1, .int 12)]) dX8_init_9 rfl (by decide) rfl ?_
  refine ep_aload_n (i := 0) dX8_init_10 rfl rfl ?_
  refine ep_iload_n (i := 2) dX8_init_11 rfl rfl ?_
  refine ep_newa (t := 0) (N := 12) dX8_init_12 rfl ac_int (Or.inl ⟨rfl, rfl⟩) (by decide) (by decide) (by decide) (Nat.le_of_ble_eq_true rfl) (z_ok2 (by decide)) ?_
  show eb_P _ _ 14 [(2, .int 12), (0, .ref 97), (1, .int 12)] [.ref 98, .ref 97] (99, (sl.1 + 1, sl.2 + 12), _, _, _, _) _
  refine ep_putR dX8_init_14 plX8_13 (fun _ => rfl) (Nat.le_of_ble_eq_true rfl) hk (Or.inl (Nat.le_of_ble_eq_true rfl)) ?_
  refine ep_aload_n (i := 0) dX8_init_17 rfl rfl ?_
  refine ep_iload_n (i := 2) dX8_init_18 rfl rfl ?_
  refine ep_newa (t := 0) (N := 12) dX8_init_19 rfl ac_int (Or.inl ⟨rfl, rfl⟩) (by decide) (by decide) (by decide) (Nat.le_of_ble_eq_true rfl) (z_ok2 (by decide)) ?_
  show eb_P _ _ 21 [(2, .int 12), (0, .ref 97), (1, .int 12)] [.ref 99, .ref 97] (100, (sl.1 + 2, sl.2 + 24), _, _, _, _) _
  refine ep_putR dX8_init_21 plX8_19 (fun _ => rfl) (Nat.le_of_ble_eq_true rfl) hk (Or.inl (Nat.le_of_ble_eq_true rfl)) ?_
  refine ep_aload_n (i := 0) dX8_init_24 rfl rfl ?_
  refine ep_iload_n (i := 2) dX8_init_25 rfl rfl ?_
  refine ep_newa (t := 0) (N := 12) dX8_init_26 rfl ac_int (Or.inl ⟨rfl, rfl⟩) (by decide) (by decide) (by decide) (Nat.le_of_ble_eq_true rfl) (z_ok2 (by decide)) ?_
  show eb_P _ _ 28 [(2, .int 12), (0, .ref 97), (1, .int 12)] [.ref 100, .ref 97] (101, (sl.1 + 3, sl.2 + 36), _, _, _, _) _
  refine ep_putR dX8_init_28 plX8_22 (fun _ => rfl) (Nat.le_of_ble_eq_true rfl) hk (Or.inl (Nat.le_of_ble_eq_true rfl)) ?_
  refine ep_vret dX8_init_31 rfl ?_
  exact ⟨rfl, rfl⟩
def k_t1 (kd : Nat → Nat × Nat) : Nat → Nat × Nat := kd
def i_t1 (I : Nat → Nat → Int32) : Nat → Nat → Int32 := I
def l_t1 (L : Nat → Nat → Int64) : Nat → Nat → Int64 := L
def r_t1 (Rf : Nat → Nat → Option Nat) : Nat → Nat → Option Nat := Rf
theorem q_ini_t1 {sl : Nat × Nat} {kd : Nat → Nat × Nat} {I : Nat → Nat → Int32} {L : Nat → Nat → Int64} {Rf : Nat → Nat → Option Nat} (d : Nat) (hk : (kd 101).1 = 1) : eb_Q mX1_init (d + 1) [.ref 101] (102, sl, kd, I, L, Rf) (eb_v (102, (sl.1 + 0, sl.2 + 0), k_t1 kd, i_t1 I, l_t1 L, r_t1 Rf)) := by
  refine ep_meth pn_X.2.1 (Nat.le_of_ble_eq_true rfl) ?_
  show eb_P _ _ 0 [(0, .ref 101)] [] (102, sl, kd, I, L, Rf) _
  refine ep_aload_n (i := 0) dX1_init_0 rfl rfl ?_
  refine ep_objI dX1_init_1 olX1_1 (Nat.le_of_ble_eq_true rfl) ?_
  refine ep_vret dX1_init_4 rfl ?_
  exact ⟨rfl, rfl⟩
def k_t0 (kd : Nat → Nat × Nat) : Nat → Nat × Nat := (va_up (va_up kd 103 (20, 41)) 104 (20, 41))
def i_t0 (I : Nat → Nat → Int32) : Nat → Nat → Int32 := (z_zi (z_zi I 103) 104)
def l_t0 (L : Nat → Nat → Int64) : Nat → Nat → Int64 := (z_zl (z_zl L 103) 104)
def r_t0 (Rf : Nat → Nat → Option Nat) : Nat → Nat → Option Nat := (z_pR (z_zr (z_pR (z_zr Rf 103) 102 0 103) 104) 102 1 104)
theorem q_ini_t0 {sl : Nat × Nat} {kd : Nat → Nat × Nat} {I : Nat → Nat → Int32} {L : Nat → Nat → Int64} {Rf : Nat → Nat → Option Nat} (d : Nat) (hk : (kd 102).1 = 0) : eb_Q mX0_init (d + 1) [.ref 102] (103, sl, kd, I, L, Rf) (eb_v (105, (sl.1 + 2, sl.2 + 82), k_t0 kd, i_t0 I, l_t0 L, r_t0 Rf)) := by
  refine ep_meth pn_X.1 (Nat.le_of_ble_eq_true rfl) ?_
  show eb_P _ _ 0 [(0, .ref 102)] [] (103, sl, kd, I, L, Rf) _
  refine ep_aload_n (i := 0) dX0_init_0 rfl rfl ?_
  refine ep_objI dX0_init_1 olX0_3 (Nat.le_of_ble_eq_true rfl) ?_
  refine ep_aload_n (i := 0) dX0_init_4 rfl rfl ?_
  refine ep_bipush (v := 41) dX0_init_5 (by decide) ?_
  refine ep_newa (t := 0) (N := 41) dX0_init_7 rfl ac_int (Or.inl ⟨rfl, rfl⟩) (by decide) (by decide) (by decide) (Nat.le_of_ble_eq_true rfl) (z_ok2 (by decide)) ?_
  show eb_P _ _ 9 [(0, .ref 102)] [.ref 103, .ref 102] (104, (sl.1 + 1, sl.2 + 41), _, _, _, _) _
  refine ep_putR dX0_init_9 plX0_11 (fun h => by cases h) (Nat.le_of_ble_eq_true rfl) hk (Or.inl (Nat.le_of_ble_eq_true rfl)) ?_
  refine ep_aload_n (i := 0) dX0_init_12 rfl rfl ?_
  refine ep_bipush (v := 41) dX0_init_13 (by decide) ?_
  refine ep_newa (t := 0) (N := 41) dX0_init_15 rfl ac_int (Or.inl ⟨rfl, rfl⟩) (by decide) (by decide) (by decide) (Nat.le_of_ble_eq_true rfl) (z_ok2 (by decide)) ?_
  show eb_P _ _ 17 [(0, .ref 102)] [.ref 104, .ref 102] (105, (sl.1 + 2, sl.2 + 82), _, _, _, _) _
  refine ep_putR dX0_init_17 plX0_15 (fun h => by cases h) (Nat.le_of_ble_eq_true rfl) hk (Or.inl (Nat.le_of_ble_eq_true rfl)) ?_
  refine ep_vret dX0_init_20 rfl ?_
  exact ⟨rfl, rfl⟩
def k_t3 (kd : Nat → Nat × Nat) : Nat → Nat × Nat := (va_up (va_up kd 106 (22, 512)) 107 (20, 3))
def i_t3 (I : Nat → Nat → Int32) : Nat → Nat → Int32 := (z_zi (z_zi I 106) 107)
def l_t3 (L : Nat → Nat → Int64) : Nat → Nat → Int64 := (z_zl (z_zl L 106) 107)
def r_t3 (Rf : Nat → Nat → Option Nat) : Nat → Nat → Option Nat := (z_pR (z_zr (z_pR (z_zr Rf 106) 105 0 106) 107) 105 1 107)
theorem q_ini_t3 {sl : Nat × Nat} {kd : Nat → Nat × Nat} {I : Nat → Nat → Int32} {L : Nat → Nat → Int64} {Rf : Nat → Nat → Option Nat} (d : Nat) (hk : (kd 105).1 = 3) : eb_Q mX3_init (d + 1) [.ref 105] (106, sl, kd, I, L, Rf) (eb_v (108, (sl.1 + 2, sl.2 + 515), k_t3 kd, i_t3 I, l_t3 L, r_t3 Rf)) := by
  refine ep_meth pn_X.2.2.2.1 (Nat.le_of_ble_eq_true rfl) ?_
  show eb_P _ _ 0 [(0, .ref 105)] [] (106, sl, kd, I, L, Rf) _
  refine ep_aload_n (i := 0) dX3_init_0 rfl rfl ?_
  refine ep_objI dX3_init_1 olX3_3 (Nat.le_of_ble_eq_true rfl) ?_
  refine ep_aload_n (i := 0) dX3_init_4 rfl rfl ?_
  refine ep_sipush (v := 512) dX3_init_5 (by decide) ?_
  refine ep_newa (t := 2) (N := 512) dX3_init_8 rfl ac_boolean (Or.inr (Or.inr (Or.inl ⟨rfl, rfl⟩))) (by decide) (by decide) (by decide) (Nat.le_of_ble_eq_true rfl) (z_ok2 (by decide)) ?_
  show eb_P _ _ 10 [(0, .ref 105)] [.ref 106, .ref 105] (107, (sl.1 + 1, sl.2 + 512), _, _, _, _) _
  refine ep_putR dX3_init_10 plX3_9 (fun _ => rfl) (Nat.le_of_ble_eq_true rfl) hk (Or.inl (Nat.le_of_ble_eq_true rfl)) ?_
  refine ep_aload_n (i := 0) dX3_init_13 rfl rfl ?_
  refine ep_iconst (v := 3) dX3_init_14 (by decide) ?_
  refine ep_newa (t := 0) (N := 3) dX3_init_15 rfl ac_int (Or.inl ⟨rfl, rfl⟩) (by decide) (by decide) (by decide) (Nat.le_of_ble_eq_true rfl) (z_ok2 (by decide)) ?_
  show eb_P _ _ 17 [(0, .ref 105)] [.ref 107, .ref 105] (108, (sl.1 + 2, sl.2 + 515), _, _, _, _) _
  refine ep_putR dX3_init_17 plX3_15 (fun _ => rfl) (Nat.le_of_ble_eq_true rfl) hk (Or.inl (Nat.le_of_ble_eq_true rfl)) ?_
  refine ep_vret dX3_init_20 rfl ?_
  exact ⟨rfl, rfl⟩
def k_t2 (kd : Nat → Nat × Nat) : Nat → Nat × Nat := (k_t7 (va_up (k_t7 (va_up (k_t7 (va_up (k_t7 (va_up (k_t7 (va_up (k_t7 (va_up (k_t7 (va_up (k_t7 (va_up (k_t7 (va_up (k_t7 (va_up (k_t7 (va_up (k_t7 (va_up (va_up kd 34 (24, 12)) 35 (7, 0)) 35) 39 (7, 0)) 39) 43 (7, 0)) 43) 47 (7, 0)) 47) 51 (7, 0)) 51) 55 (7, 0)) 55) 59 (7, 0)) 59) 63 (7, 0)) 63) 67 (7, 0)) 67) 71 (7, 0)) 71) 75 (7, 0)) 75) 79 (7, 0)) 79)
def i_t2 (I : Nat → Nat → Int32) : Nat → Nat → Int32 := (i_t7 (z_zi (i_t7 (z_zi (i_t7 (z_zi (i_t7 (z_zi (i_t7 (z_zi (i_t7 (z_zi (i_t7 (z_zi (i_t7 (z_zi (i_t7 (z_zi (i_t7 (z_zi (i_t7 (z_zi (i_t7 (z_zi (z_zi I 34) 35) 35) 39) 39) 43) 43) 47) 47) 51) 51) 55) 55) 59) 59) 63) 63) 67) 67) 71) 71) 75) 75) 79) 79)
def l_t2 (L : Nat → Nat → Int64) : Nat → Nat → Int64 := (l_t7 (z_zl (l_t7 (z_zl (l_t7 (z_zl (l_t7 (z_zl (l_t7 (z_zl (l_t7 (z_zl (l_t7 (z_zl (l_t7 (z_zl (l_t7 (z_zl (l_t7 (z_zl (l_t7 (z_zl (l_t7 (z_zl (z_zl L 34) 35) 35) 39) 39) 43) 43) 47) 47) 51) 51) 55) 55) 59) 59) 63) 63) 67) 67) 71) 71) 75) 75) 79) 79)
def r_t2 (Rf : Nat → Nat → Option Nat) : Nat → Nat → Option Nat := (z_pR (r_t7 (z_zr (z_pR (r_t7 (z_zr (z_pR (r_t7 (z_zr (z_pR (r_t7 (z_zr (z_pR (r_t7 (z_zr (z_pR (r_t7 (z_zr (z_pR (r_t7 (z_zr (z_pR (r_t7 (z_zr (z_pR (r_t7 (z_zr (z_pR (r_t7 (z_zr (z_pR (r_t7 (z_zr (z_pR (r_t7 (z_zr (z_pR (z_zr Rf 34) 33 0 34) 35) 35) 34 0 35) 39) 39) 34 1 39) 43) 43) 34 2 43) 47) 47) 34 3 47) 51) 51) 34 4 51) 55) 55) 34 5 55) 59) 59) 34 6 59) 63) 63) 34 7 63) 67) 67) 34 8 67) 71) 71) 34 9 71) 75) 75) 34 10 75) 79) 79) 34 11 79)
theorem q_ini_t2 {sl : Nat × Nat} {kd : Nat → Nat × Nat} {I : Nat → Nat → Int32} {L : Nat → Nat → Int64} {Rf : Nat → Nat → Option Nat} (d : Nat) (hk : (kd 33).1 = 2) : eb_Q mX2_init (d + 2) [.ref 33] (34, sl, kd, I, L, Rf) (eb_v (83, (sl.1 + 49, sl.2 + 372), k_t2 kd, i_t2 I, l_t2 L, r_t2 Rf)) := by
  refine ep_meth pn_X.2.2.1 (Nat.le_of_ble_eq_true rfl) ?_
  show eb_P _ _ 0 [(0, .ref 33)] [] (34, sl, kd, I, L, Rf) _
  refine ep_aload_n (i := 0) dX2_init_0 rfl rfl ?_
  refine ep_objI dX2_init_1 olX2_1 (Nat.le_of_ble_eq_true rfl) ?_
  refine ep_aload_n (i := 0) dX2_init_4 rfl rfl ?_
  refine ep_bipush (v := 12) dX2_init_5 (by decide) ?_
  refine ep_newq (N := 12) dX2_init_7 (eb_tb2 100 rfl rfl) (by decide) (by decide) (by decide) (Nat.le_of_ble_eq_true rfl) (z_ok2 (by decide)) ?_
  show eb_P _ _ 10 [(0, .ref 33)] [.ref 34, .ref 33] (35, (sl.1 + 1, sl.2 + 12), _, _, _, _) _
  refine ep_putR dX2_init_10 plX2_11 (fun _ => rfl) (Nat.le_of_ble_eq_true rfl) hk (Or.inl (Nat.le_of_ble_eq_true rfl)) ?_
  refine ep_iconst (v := 0) dX2_init_13 (by decide) ?_
  refine ep_istore_n (l' := [(1, .int 0), (0, .ref 33)]) dX2_init_14 rfl (by decide) rfl ?_
  refine ep_iload_n (i := 1) dX2_init_15 rfl rfl ?_
  refine ep_bipush (v := 12) dX2_init_16 (by decide) ?_
  refine ep_icmp_ge (tgt := 40) dX2_init_18 (by decide) (fun h => absurd h (by decide)) (fun _ => ?_)
  refine ep_aload_n (i := 0) dX2_init_21 rfl rfl ?_
  refine ep_getR dX2_init_22 flX2_11 (Nat.le_of_ble_eq_true rfl) hk (j := 34) rfl ?_
  refine ep_iload_n (i := 1) dX2_init_25 rfl rfl ?_
  refine ep_new (c := 7) (N := 9) dX2_init_26 nlX2_9 rfl (Nat.le_of_ble_eq_true rfl) (z_ok2 (by decide)) ?_
  show eb_P _ _ 29 [(1, .int 0), (0, .ref 33)] [.ref 35, .int 0, .ref 34] (36, (sl.1 + 2, sl.2 + 21), _, _, _, _) _
  refine ep_dup dX2_init_29 rfl ?_
  refine ep_callI (M1 := mX7_init) (rest := [.ref 35, .int 0, .ref 34]) dX2_init_30 mlX2_15 miX7_init rfl (Nat.le_of_ble_eq_true rfl) rfl (q_ini_t7 (d + 0) (i := 35) (Nat.le_of_ble_eq_true rfl) rfl) (fun _ _ _ => Or.inr (z_ok2 (n := 36) (by decide))) ?_
  rintro _ _ ⟨rfl, rfl⟩
  show eb_P _ _ 33 [(1, .int 0), (0, .ref 33)] [.ref 35, .int 0, .ref 34] _ _
  show eb_P _ _ 33 [(1, .int 0), (0, .ref 33)] [.ref 35, .int 0, .ref 34] (39, (sl.1 + 5, sl.2 + 42), _, _, _, _) _
  refine ep_aasN (k := 0) dX2_init_33 (Nat.le_of_ble_eq_true rfl) (len := 12) rfl (Nat.le_of_ble_eq_true rfl) rfl (by decide) (by decide) ?_
  refine ep_iinc (v := 1) (l' := [(1, .int 1), (0, .ref 33)]) dX2_init_34 rfl (by decide) (by decide) rfl ?_
  refine ep_goto (tgt := 15) dX2_init_37 (by decide) ?_
  refine ep_iload_n (i := 1) dX2_init_15 rfl rfl ?_
  refine ep_bipush (v := 12) dX2_init_16 (by decide) ?_
  refine ep_icmp_ge (tgt := 40) dX2_init_18 (by decide) (fun h => absurd h (by decide)) (fun _ => ?_)
  refine ep_aload_n (i := 0) dX2_init_21 rfl rfl ?_
  refine ep_getR dX2_init_22 flX2_11 (Nat.le_of_ble_eq_true rfl) hk (j := 34) rfl ?_
  refine ep_iload_n (i := 1) dX2_init_25 rfl rfl ?_
  refine ep_new (c := 7) (N := 9) dX2_init_26 nlX2_9 rfl (Nat.le_of_ble_eq_true rfl) (z_ok2 (by decide)) ?_
  show eb_P _ _ 29 [(1, .int 1), (0, .ref 33)] [.ref 39, .int 1, .ref 34] (40, (sl.1 + 6, sl.2 + 51), _, _, _, _) _
  refine ep_dup dX2_init_29 rfl ?_
  refine ep_callI (M1 := mX7_init) (rest := [.ref 39, .int 1, .ref 34]) dX2_init_30 mlX2_15 miX7_init rfl (Nat.le_of_ble_eq_true rfl) rfl (q_ini_t7 (d + 0) (i := 39) (Nat.le_of_ble_eq_true rfl) rfl) (fun _ _ _ => Or.inr (z_ok2 (n := 40) (by decide))) ?_
  rintro _ _ ⟨rfl, rfl⟩
  show eb_P _ _ 33 [(1, .int 1), (0, .ref 33)] [.ref 39, .int 1, .ref 34] _ _
  show eb_P _ _ 33 [(1, .int 1), (0, .ref 33)] [.ref 39, .int 1, .ref 34] (43, (sl.1 + 9, sl.2 + 72), _, _, _, _) _
  refine ep_aasN (k := 1) dX2_init_33 (Nat.le_of_ble_eq_true rfl) (len := 12) rfl (Nat.le_of_ble_eq_true rfl) rfl (by decide) (by decide) ?_
  refine ep_iinc (v := 2) (l' := [(1, .int 2), (0, .ref 33)]) dX2_init_34 rfl (by decide) (by decide) rfl ?_
  refine ep_goto (tgt := 15) dX2_init_37 (by decide) ?_
  refine ep_iload_n (i := 1) dX2_init_15 rfl rfl ?_
  refine ep_bipush (v := 12) dX2_init_16 (by decide) ?_
  refine ep_icmp_ge (tgt := 40) dX2_init_18 (by decide) (fun h => absurd h (by decide)) (fun _ => ?_)
  refine ep_aload_n (i := 0) dX2_init_21 rfl rfl ?_
  refine ep_getR dX2_init_22 flX2_11 (Nat.le_of_ble_eq_true rfl) hk (j := 34) rfl ?_
  refine ep_iload_n (i := 1) dX2_init_25 rfl rfl ?_
  refine ep_new (c := 7) (N := 9) dX2_init_26 nlX2_9 rfl (Nat.le_of_ble_eq_true rfl) (z_ok2 (by decide)) ?_
  show eb_P _ _ 29 [(1, .int 2), (0, .ref 33)] [.ref 43, .int 2, .ref 34] (44, (sl.1 + 10, sl.2 + 81), _, _, _, _) _
  refine ep_dup dX2_init_29 rfl ?_
  refine ep_callI (M1 := mX7_init) (rest := [.ref 43, .int 2, .ref 34]) dX2_init_30 mlX2_15 miX7_init rfl (Nat.le_of_ble_eq_true rfl) rfl (q_ini_t7 (d + 0) (i := 43) (Nat.le_of_ble_eq_true rfl) rfl) (fun _ _ _ => Or.inr (z_ok2 (n := 44) (by decide))) ?_
  rintro _ _ ⟨rfl, rfl⟩
  show eb_P _ _ 33 [(1, .int 2), (0, .ref 33)] [.ref 43, .int 2, .ref 34] _ _
  show eb_P _ _ 33 [(1, .int 2), (0, .ref 33)] [.ref 43, .int 2, .ref 34] (47, (sl.1 + 13, sl.2 + 102), _, _, _, _) _
  refine ep_aasN (k := 2) dX2_init_33 (Nat.le_of_ble_eq_true rfl) (len := 12) rfl (Nat.le_of_ble_eq_true rfl) rfl (by decide) (by decide) ?_
  refine ep_iinc (v := 3) (l' := [(1, .int 3), (0, .ref 33)]) dX2_init_34 rfl (by decide) (by decide) rfl ?_
  refine ep_goto (tgt := 15) dX2_init_37 (by decide) ?_
  refine ep_iload_n (i := 1) dX2_init_15 rfl rfl ?_
  refine ep_bipush (v := 12) dX2_init_16 (by decide) ?_
  refine ep_icmp_ge (tgt := 40) dX2_init_18 (by decide) (fun h => absurd h (by decide)) (fun _ => ?_)
  refine ep_aload_n (i := 0) dX2_init_21 rfl rfl ?_
  refine ep_getR dX2_init_22 flX2_11 (Nat.le_of_ble_eq_true rfl) hk (j := 34) rfl ?_
  refine ep_iload_n (i := 1) dX2_init_25 rfl rfl ?_
  refine ep_new (c := 7) (N := 9) dX2_init_26 nlX2_9 rfl (Nat.le_of_ble_eq_true rfl) (z_ok2 (by decide)) ?_
  show eb_P _ _ 29 [(1, .int 3), (0, .ref 33)] [.ref 47, .int 3, .ref 34] (48, (sl.1 + 14, sl.2 + 111), _, _, _, _) _
  refine ep_dup dX2_init_29 rfl ?_
  refine ep_callI (M1 := mX7_init) (rest := [.ref 47, .int 3, .ref 34]) dX2_init_30 mlX2_15 miX7_init rfl (Nat.le_of_ble_eq_true rfl) rfl (q_ini_t7 (d + 0) (i := 47) (Nat.le_of_ble_eq_true rfl) rfl) (fun _ _ _ => Or.inr (z_ok2 (n := 48) (by decide))) ?_
  rintro _ _ ⟨rfl, rfl⟩
  show eb_P _ _ 33 [(1, .int 3), (0, .ref 33)] [.ref 47, .int 3, .ref 34] _ _
  show eb_P _ _ 33 [(1, .int 3), (0, .ref 33)] [.ref 47, .int 3, .ref 34] (51, (sl.1 + 17, sl.2 + 132), _, _, _, _) _
  refine ep_aasN (k := 3) dX2_init_33 (Nat.le_of_ble_eq_true rfl) (len := 12) rfl (Nat.le_of_ble_eq_true rfl) rfl (by decide) (by decide) ?_
  refine ep_iinc (v := 4) (l' := [(1, .int 4), (0, .ref 33)]) dX2_init_34 rfl (by decide) (by decide) rfl ?_
  refine ep_goto (tgt := 15) dX2_init_37 (by decide) ?_
  refine ep_iload_n (i := 1) dX2_init_15 rfl rfl ?_
  refine ep_bipush (v := 12) dX2_init_16 (by decide) ?_
  refine ep_icmp_ge (tgt := 40) dX2_init_18 (by decide) (fun h => absurd h (by decide)) (fun _ => ?_)
  refine ep_aload_n (i := 0) dX2_init_21 rfl rfl ?_
  refine ep_getR dX2_init_22 flX2_11 (Nat.le_of_ble_eq_true rfl) hk (j := 34) rfl ?_
  refine ep_iload_n (i := 1) dX2_init_25 rfl rfl ?_
  refine ep_new (c := 7) (N := 9) dX2_init_26 nlX2_9 rfl (Nat.le_of_ble_eq_true rfl) (z_ok2 (by decide)) ?_
  show eb_P _ _ 29 [(1, .int 4), (0, .ref 33)] [.ref 51, .int 4, .ref 34] (52, (sl.1 + 18, sl.2 + 141), _, _, _, _) _
  refine ep_dup dX2_init_29 rfl ?_
  refine ep_callI (M1 := mX7_init) (rest := [.ref 51, .int 4, .ref 34]) dX2_init_30 mlX2_15 miX7_init rfl (Nat.le_of_ble_eq_true rfl) rfl (q_ini_t7 (d + 0) (i := 51) (Nat.le_of_ble_eq_true rfl) rfl) (fun _ _ _ => Or.inr (z_ok2 (n := 52) (by decide))) ?_
  rintro _ _ ⟨rfl, rfl⟩
  show eb_P _ _ 33 [(1, .int 4), (0, .ref 33)] [.ref 51, .int 4, .ref 34] _ _
  show eb_P _ _ 33 [(1, .int 4), (0, .ref 33)] [.ref 51, .int 4, .ref 34] (55, (sl.1 + 21, sl.2 + 162), _, _, _, _) _
  refine ep_aasN (k := 4) dX2_init_33 (Nat.le_of_ble_eq_true rfl) (len := 12) rfl (Nat.le_of_ble_eq_true rfl) rfl (by decide) (by decide) ?_
  refine ep_iinc (v := 5) (l' := [(1, .int 5), (0, .ref 33)]) dX2_init_34 rfl (by decide) (by decide) rfl ?_
  refine ep_goto (tgt := 15) dX2_init_37 (by decide) ?_
  refine ep_iload_n (i := 1) dX2_init_15 rfl rfl ?_
  refine ep_bipush (v := 12) dX2_init_16 (by decide) ?_
  refine ep_icmp_ge (tgt := 40) dX2_init_18 (by decide) (fun h => absurd h (by decide)) (fun _ => ?_)
  refine ep_aload_n (i := 0) dX2_init_21 rfl rfl ?_
  refine ep_getR dX2_init_22 flX2_11 (Nat.le_of_ble_eq_true rfl) hk (j := 34) rfl ?_
  refine ep_iload_n (i := 1) dX2_init_25 rfl rfl ?_
  refine ep_new (c := 7) (N := 9) dX2_init_26 nlX2_9 rfl (Nat.le_of_ble_eq_true rfl) (z_ok2 (by decide)) ?_
  show eb_P _ _ 29 [(1, .int 5), (0, .ref 33)] [.ref 55, .int 5, .ref 34] (56, (sl.1 + 22, sl.2 + 171), _, _, _, _) _
  refine ep_dup dX2_init_29 rfl ?_
  refine ep_callI (M1 := mX7_init) (rest := [.ref 55, .int 5, .ref 34]) dX2_init_30 mlX2_15 miX7_init rfl (Nat.le_of_ble_eq_true rfl) rfl (q_ini_t7 (d + 0) (i := 55) (Nat.le_of_ble_eq_true rfl) rfl) (fun _ _ _ => Or.inr (z_ok2 (n := 56) (by decide))) ?_
  rintro _ _ ⟨rfl, rfl⟩
  show eb_P _ _ 33 [(1, .int 5), (0, .ref 33)] [.ref 55, .int 5, .ref 34] _ _
  show eb_P _ _ 33 [(1, .int 5), (0, .ref 33)] [.ref 55, .int 5, .ref 34] (59, (sl.1 + 25, sl.2 + 192), _, _, _, _) _
  refine ep_aasN (k := 5) dX2_init_33 (Nat.le_of_ble_eq_true rfl) (len := 12) rfl (Nat.le_of_ble_eq_true rfl) rfl (by decide) (by decide) ?_
  refine ep_iinc (v := 6) (l' := [(1, .int 6), (0, .ref 33)]) dX2_init_34 rfl (by decide) (by decide) rfl ?_
  refine ep_goto (tgt := 15) dX2_init_37 (by decide) ?_
  refine ep_iload_n (i := 1) dX2_init_15 rfl rfl ?_
  refine ep_bipush (v := 12) dX2_init_16 (by decide) ?_
  refine ep_icmp_ge (tgt := 40) dX2_init_18 (by decide) (fun h => absurd h (by decide)) (fun _ => ?_)
  refine ep_aload_n (i := 0) dX2_init_21 rfl rfl ?_
  refine ep_getR dX2_init_22 flX2_11 (Nat.le_of_ble_eq_true rfl) hk (j := 34) rfl ?_
  refine ep_iload_n (i := 1) dX2_init_25 rfl rfl ?_
  refine ep_new (c := 7) (N := 9) dX2_init_26 nlX2_9 rfl (Nat.le_of_ble_eq_true rfl) (z_ok2 (by decide)) ?_
  show eb_P _ _ 29 [(1, .int 6), (0, .ref 33)] [.ref 59, .int 6, .ref 34] (60, (sl.1 + 26, sl.2 + 201), _, _, _, _) _
  refine ep_dup dX2_init_29 rfl ?_
  refine ep_callI (M1 := mX7_init) (rest := [.ref 59, .int 6, .ref 34]) dX2_init_30 mlX2_15 miX7_init rfl (Nat.le_of_ble_eq_true rfl) rfl (q_ini_t7 (d + 0) (i := 59) (Nat.le_of_ble_eq_true rfl) rfl) (fun _ _ _ => Or.inr (z_ok2 (n := 60) (by decide))) ?_
  rintro _ _ ⟨rfl, rfl⟩
  show eb_P _ _ 33 [(1, .int 6), (0, .ref 33)] [.ref 59, .int 6, .ref 34] _ _
  show eb_P _ _ 33 [(1, .int 6), (0, .ref 33)] [.ref 59, .int 6, .ref 34] (63, (sl.1 + 29, sl.2 + 222), _, _, _, _) _
  refine ep_aasN (k := 6) dX2_init_33 (Nat.le_of_ble_eq_true rfl) (len := 12) rfl (Nat.le_of_ble_eq_true rfl) rfl (by decide) (by decide) ?_
  refine ep_iinc (v := 7) (l' := [(1, .int 7), (0, .ref 33)]) dX2_init_34 rfl (by decide) (by decide) rfl ?_
  refine ep_goto (tgt := 15) dX2_init_37 (by decide) ?_
  refine ep_iload_n (i := 1) dX2_init_15 rfl rfl ?_
  refine ep_bipush (v := 12) dX2_init_16 (by decide) ?_
  refine ep_icmp_ge (tgt := 40) dX2_init_18 (by decide) (fun h => absurd h (by decide)) (fun _ => ?_)
  refine ep_aload_n (i := 0) dX2_init_21 rfl rfl ?_
  refine ep_getR dX2_init_22 flX2_11 (Nat.le_of_ble_eq_true rfl) hk (j := 34) rfl ?_
  refine ep_iload_n (i := 1) dX2_init_25 rfl rfl ?_
  refine ep_new (c := 7) (N := 9) dX2_init_26 nlX2_9 rfl (Nat.le_of_ble_eq_true rfl) (z_ok2 (by decide)) ?_
  show eb_P _ _ 29 [(1, .int 7), (0, .ref 33)] [.ref 63, .int 7, .ref 34] (64, (sl.1 + 30, sl.2 + 231), _, _, _, _) _
  refine ep_dup dX2_init_29 rfl ?_
  refine ep_callI (M1 := mX7_init) (rest := [.ref 63, .int 7, .ref 34]) dX2_init_30 mlX2_15 miX7_init rfl (Nat.le_of_ble_eq_true rfl) rfl (q_ini_t7 (d + 0) (i := 63) (Nat.le_of_ble_eq_true rfl) rfl) (fun _ _ _ => Or.inr (z_ok2 (n := 64) (by decide))) ?_
  rintro _ _ ⟨rfl, rfl⟩
  show eb_P _ _ 33 [(1, .int 7), (0, .ref 33)] [.ref 63, .int 7, .ref 34] _ _
  show eb_P _ _ 33 [(1, .int 7), (0, .ref 33)] [.ref 63, .int 7, .ref 34] (67, (sl.1 + 33, sl.2 + 252), _, _, _, _) _
  refine ep_aasN (k := 7) dX2_init_33 (Nat.le_of_ble_eq_true rfl) (len := 12) rfl (Nat.le_of_ble_eq_true rfl) rfl (by decide) (by decide) ?_
  refine ep_iinc (v := 8) (l' := [(1, .int 8), (0, .ref 33)]) dX2_init_34 rfl (by decide) (by decide) rfl ?_
  refine ep_goto (tgt := 15) dX2_init_37 (by decide) ?_
  refine ep_iload_n (i := 1) dX2_init_15 rfl rfl ?_
  refine ep_bipush (v := 12) dX2_init_16 (by decide) ?_
  refine ep_icmp_ge (tgt := 40) dX2_init_18 (by decide) (fun h => absurd h (by decide)) (fun _ => ?_)
  refine ep_aload_n (i := 0) dX2_init_21 rfl rfl ?_
  refine ep_getR dX2_init_22 flX2_11 (Nat.le_of_ble_eq_true rfl) hk (j := 34) rfl ?_
  refine ep_iload_n (i := 1) dX2_init_25 rfl rfl ?_
  refine ep_new (c := 7) (N := 9) dX2_init_26 nlX2_9 rfl (Nat.le_of_ble_eq_true rfl) (z_ok2 (by decide)) ?_
  show eb_P _ _ 29 [(1, .int 8), (0, .ref 33)] [.ref 67, .int 8, .ref 34] (68, (sl.1 + 34, sl.2 + 261), _, _, _, _) _
  refine ep_dup dX2_init_29 rfl ?_
  refine ep_callI (M1 := mX7_init) (rest := [.ref 67, .int 8, .ref 34]) dX2_init_30 mlX2_15 miX7_init rfl (Nat.le_of_ble_eq_true rfl) rfl (q_ini_t7 (d + 0) (i := 67) (Nat.le_of_ble_eq_true rfl) rfl) (fun _ _ _ => Or.inr (z_ok2 (n := 68) (by decide))) ?_
  rintro _ _ ⟨rfl, rfl⟩
  show eb_P _ _ 33 [(1, .int 8), (0, .ref 33)] [.ref 67, .int 8, .ref 34] _ _
  show eb_P _ _ 33 [(1, .int 8), (0, .ref 33)] [.ref 67, .int 8, .ref 34] (71, (sl.1 + 37, sl.2 + 282), _, _, _, _) _
  refine ep_aasN (k := 8) dX2_init_33 (Nat.le_of_ble_eq_true rfl) (len := 12) rfl (Nat.le_of_ble_eq_true rfl) rfl (by decide) (by decide) ?_
  refine ep_iinc (v := 9) (l' := [(1, .int 9), (0, .ref 33)]) dX2_init_34 rfl (by decide) (by decide) rfl ?_
  refine ep_goto (tgt := 15) dX2_init_37 (by decide) ?_
  refine ep_iload_n (i := 1) dX2_init_15 rfl rfl ?_
  refine ep_bipush (v := 12) dX2_init_16 (by decide) ?_
  refine ep_icmp_ge (tgt := 40) dX2_init_18 (by decide) (fun h => absurd h (by decide)) (fun _ => ?_)
  refine ep_aload_n (i := 0) dX2_init_21 rfl rfl ?_
  refine ep_getR dX2_init_22 flX2_11 (Nat.le_of_ble_eq_true rfl) hk (j := 34) rfl ?_
  refine ep_iload_n (i := 1) dX2_init_25 rfl rfl ?_
  refine ep_new (c := 7) (N := 9) dX2_init_26 nlX2_9 rfl (Nat.le_of_ble_eq_true rfl) (z_ok2 (by decide)) ?_
  show eb_P _ _ 29 [(1, .int 9), (0, .ref 33)] [.ref 71, .int 9, .ref 34] (72, (sl.1 + 38, sl.2 + 291), _, _, _, _) _
  refine ep_dup dX2_init_29 rfl ?_
  refine ep_callI (M1 := mX7_init) (rest := [.ref 71, .int 9, .ref 34]) dX2_init_30 mlX2_15 miX7_init rfl (Nat.le_of_ble_eq_true rfl) rfl (q_ini_t7 (d + 0) (i := 71) (Nat.le_of_ble_eq_true rfl) rfl) (fun _ _ _ => Or.inr (z_ok2 (n := 72) (by decide))) ?_
  rintro _ _ ⟨rfl, rfl⟩
  show eb_P _ _ 33 [(1, .int 9), (0, .ref 33)] [.ref 71, .int 9, .ref 34] _ _
  show eb_P _ _ 33 [(1, .int 9), (0, .ref 33)] [.ref 71, .int 9, .ref 34] (75, (sl.1 + 41, sl.2 + 312), _, _, _, _) _
  refine ep_aasN (k := 9) dX2_init_33 (Nat.le_of_ble_eq_true rfl) (len := 12) rfl (Nat.le_of_ble_eq_true rfl) rfl (by decide) (by decide) ?_
  refine ep_iinc (v := 10) (l' := [(1, .int 10), (0, .ref 33)]) dX2_init_34 rfl (by decide) (by decide) rfl ?_
  refine ep_goto (tgt := 15) dX2_init_37 (by decide) ?_
  refine ep_iload_n (i := 1) dX2_init_15 rfl rfl ?_
  refine ep_bipush (v := 12) dX2_init_16 (by decide) ?_
  refine ep_icmp_ge (tgt := 40) dX2_init_18 (by decide) (fun h => absurd h (by decide)) (fun _ => ?_)
  refine ep_aload_n (i := 0) dX2_init_21 rfl rfl ?_
  refine ep_getR dX2_init_22 flX2_11 (Nat.le_of_ble_eq_true rfl) hk (j := 34) rfl ?_
  refine ep_iload_n (i := 1) dX2_init_25 rfl rfl ?_
  refine ep_new (c := 7) (N := 9) dX2_init_26 nlX2_9 rfl (Nat.le_of_ble_eq_true rfl) (z_ok2 (by decide)) ?_
  show eb_P _ _ 29 [(1, .int 10), (0, .ref 33)] [.ref 75, .int 10, .ref 34] (76, (sl.1 + 42, sl.2 + 321), _, _, _, _) _
  refine ep_dup dX2_init_29 rfl ?_
  refine ep_callI (M1 := mX7_init) (rest := [.ref 75, .int 10, .ref 34]) dX2_init_30 mlX2_15 miX7_init rfl (Nat.le_of_ble_eq_true rfl) rfl (q_ini_t7 (d + 0) (i := 75) (Nat.le_of_ble_eq_true rfl) rfl) (fun _ _ _ => Or.inr (z_ok2 (n := 76) (by decide))) ?_
  rintro _ _ ⟨rfl, rfl⟩
  show eb_P _ _ 33 [(1, .int 10), (0, .ref 33)] [.ref 75, .int 10, .ref 34] _ _
  show eb_P _ _ 33 [(1, .int 10), (0, .ref 33)] [.ref 75, .int 10, .ref 34] (79, (sl.1 + 45, sl.2 + 342), _, _, _, _) _
  refine ep_aasN (k := 10) dX2_init_33 (Nat.le_of_ble_eq_true rfl) (len := 12) rfl (Nat.le_of_ble_eq_true rfl) rfl (by decide) (by decide) ?_
  refine ep_iinc (v := 11) (l' := [(1, .int 11), (0, .ref 33)]) dX2_init_34 rfl (by decide) (by decide) rfl ?_
  refine ep_goto (tgt := 15) dX2_init_37 (by decide) ?_
  refine ep_iload_n (i := 1) dX2_init_15 rfl rfl ?_
  refine ep_bipush (v := 12) dX2_init_16 (by decide) ?_
  refine ep_icmp_ge (tgt := 40) dX2_init_18 (by decide) (fun h => absurd h (by decide)) (fun _ => ?_)
  refine ep_aload_n (i := 0) dX2_init_21 rfl rfl ?_
  refine ep_getR dX2_init_22 flX2_11 (Nat.le_of_ble_eq_true rfl) hk (j := 34) rfl ?_
  refine ep_iload_n (i := 1) dX2_init_25 rfl rfl ?_
  refine ep_new (c := 7) (N := 9) dX2_init_26 nlX2_9 rfl (Nat.le_of_ble_eq_true rfl) (z_ok2 (by decide)) ?_
  show eb_P _ _ 29 [(1, .int 11), (0, .ref 33)] [.ref 79, .int 11, .ref 34] (80, (sl.1 + 46, sl.2 + 351), _, _, _, _) _
  refine ep_dup dX2_init_29 rfl ?_
  refine ep_callI (M1 := mX7_init) (rest := [.ref 79, .int 11, .ref 34]) dX2_init_30 mlX2_15 miX7_init rfl (Nat.le_of_ble_eq_true rfl) rfl (q_ini_t7 (d + 0) (i := 79) (Nat.le_of_ble_eq_true rfl) rfl) (fun _ _ _ => Or.inr (z_ok2 (n := 80) (by decide))) ?_
  rintro _ _ ⟨rfl, rfl⟩
  show eb_P _ _ 33 [(1, .int 11), (0, .ref 33)] [.ref 79, .int 11, .ref 34] _ _
  show eb_P _ _ 33 [(1, .int 11), (0, .ref 33)] [.ref 79, .int 11, .ref 34] (83, (sl.1 + 49, sl.2 + 372), _, _, _, _) _
  refine ep_aasN (k := 11) dX2_init_33 (Nat.le_of_ble_eq_true rfl) (len := 12) rfl (Nat.le_of_ble_eq_true rfl) rfl (by decide) (by decide) ?_
  refine ep_iinc (v := 12) (l' := [(1, .int 12), (0, .ref 33)]) dX2_init_34 rfl (by decide) (by decide) rfl ?_
  refine ep_goto (tgt := 15) dX2_init_37 (by decide) ?_
  refine ep_iload_n (i := 1) dX2_init_15 rfl rfl ?_
  refine ep_bipush (v := 12) dX2_init_16 (by decide) ?_
  refine ep_icmp_ge (tgt := 40) dX2_init_18 (by decide) (fun _ => ?_) (fun h => absurd (by decide) h)
  refine ep_vret dX2_init_40 rfl ?_
  exact ⟨rfl, rfl⟩
def k_t11 (kd : Nat → Nat × Nat) : Nat → Nat × Nat := (va_up (va_up (va_up (va_up (va_up (va_up (va_up (va_up (va_up (va_up (va_up (va_up (va_up (va_up (va_up (va_up (va_up (va_up (va_up (va_up (va_up (va_up (va_up (va_up kd 113 (20, 26)) 114 (20, 6)) 115 (20, 20)) 116 (21, 80)) 117 (23, 16)) 118 (20, 42)) 119 (21, 40)) 120 (21, 40)) 121 (20, 7)) 122 (20, 312)) 123 (20, 26)) 124 (20, 26)) 125 (20, 240)) 126 (20, 10)) 127 (20, 10)) 128 (20, 10)) 129 (20, 6)) 130 (20, 12)) 131 (20, 12)) 132 (22, 512)) 133 (20, 3)) 134 (20, 52)) 135 (22, 2)) 136 (20, 2))
def i_t11 (I : Nat → Nat → Int32) : Nat → Nat → Int32 := (z_set (z_zi (z_zi (z_zi (z_zi (z_zi (z_zi (z_zi (z_zi (z_zi (z_zi (z_zi (z_zi (z_zi (z_zi (z_zi (z_zi (z_zi (z_zi (z_zi (z_zi (z_zi (z_set (z_zi (z_set (z_set (z_set (z_set (z_set (z_set (z_zi (z_zi I 113) 114) 114 0 0) 114 1 1) 114 2 3) 114 3 5) 114 4 7) 114 5 9) 115) 112 4 1) 116) 117) 118) 119) 120) 121) 122) 123) 124) 125) 126) 127) 128) 129) 130) 131) 132) 133) 134) 135) 136) 113 21 5)
def l_t11 (L : Nat → Nat → Int64) : Nat → Nat → Int64 := (z_zl (z_zl (z_zl (z_zl (z_zl (z_zl (z_zl (z_zl (z_zl (z_zl (z_zl (z_zl (z_zl (z_zl (z_zl (z_zl (z_zl (z_zl (z_zl (z_zl (z_zl (z_zl (z_zl (z_zl L 113) 114) 115) 116) 117) 118) 119) 120) 121) 122) 123) 124) 125) 126) 127) 128) 129) 130) 131) 132) 133) 134) 135) 136)
def r_t11 (Rf : Nat → Nat → Option Nat) : Nat → Nat → Option Nat := (z_pR (z_zr (z_pR (z_zr (z_pR (z_zr (z_pR (z_zr (z_pR (z_zr (z_pR (z_zr (z_pR (z_zr (z_pR (z_zr (z_pR (z_zr (z_pR (z_zr (z_pR (z_zr (z_pR (z_zr (z_pR (z_zr (z_pR (z_zr (z_pR (z_zr (z_pR (z_zr (z_pR (z_zr (z_pR (z_zr (z_pR (z_zr (z_pR (z_zr (z_pR (z_zr (z_pR (z_zr (z_pR (z_zr (z_pR (z_zr Rf 113) 112 0 113) 114) 112 2 114) 115) 112 3 115) 116) 112 5 116) 117) 112 7 117) 118) 112 15 118) 119) 112 16 119) 120) 112 17 120) 121) 112 20 121) 122) 112 21 122) 123) 112 23 123) 124) 112 24 124) 125) 112 26 125) 126) 112 27 126) 127) 112 28 127) 128) 112 29 128) 129) 112 31 129) 130) 112 32 130) 131) 112 33 131) 132) 112 35 132) 133) 112 36 133) 134) 112 39 134) 135) 112 40 135) 136) 112 41 136)
theorem q_ini_t11 {sl : Nat × Nat} {kd : Nat → Nat × Nat} {I : Nat → Nat → Int32} {L : Nat → Nat → Int64} {Rf : Nat → Nat → Option Nat} (d : Nat) (hk : (kd 112).1 = 11) : eb_Q mX11_init (d + 1) [.ref 112] (113, sl, kd, I, L, Rf) (eb_v (137, (sl.1 + 24, sl.2 + 1512), k_t11 kd, i_t11 I, l_t11 L, r_t11 Rf)) := by
  refine ep_meth pn_X.2.2.2.2.2.2.2.2.2.2.2 (Nat.le_of_ble_eq_true rfl) ?_
  show eb_P _ _ 0 [(0, .ref 112)] [] (113, sl, kd, I, L, Rf) _
  refine ep_aload_n (i := 0) dX11_init_0 rfl rfl ?_
  refine ep_objI dX11_init_1 olX11_3 (Nat.le_of_ble_eq_true rfl) ?_
  refine ep_aload_n (i := 0) dX11_init_4 rfl rfl ?_
  refine ep_bipush (v := 26) dX11_init_5 (by decide) ?_
  refine ep_newa (t := 0) (N := 26) dX11_init_7 rfl ac_int (Or.inl ⟨rfl, rfl⟩) (by decide) (by decide) (by decide) (Nat.le_of_ble_eq_true rfl) (z_ok2 (by decide)) ?_
  show eb_P _ _ 9 [(0, .ref 112)] [.ref 113, .ref 112] (114, (sl.1 + 1, sl.2 + 26), _, _, _, _) _
  refine ep_putR dX11_init_9 plX11_9 (fun _ => rfl) (Nat.le_of_ble_eq_true rfl) hk (Or.inl (Nat.le_of_ble_eq_true rfl)) ?_
  refine ep_aload_n (i := 0) dX11_init_12 rfl rfl ?_
  refine ep_bipush (v := 6) dX11_init_13 (by decide) ?_
  refine ep_newa (t := 0) (N := 6) dX11_init_15 rfl ac_int (Or.inl ⟨rfl, rfl⟩) (by decide) (by decide) (by decide) (Nat.le_of_ble_eq_true rfl) (z_ok2 (by decide)) ?_
  show eb_P _ _ 17 [(0, .ref 112)] [.ref 114, .ref 112] (115, (sl.1 + 2, sl.2 + 32), _, _, _, _) _
  refine ep_dup dX11_init_17 rfl ?_
  refine ep_iconst (v := 0) dX11_init_18 (by decide) ?_
  refine ep_iconst (v := 0) dX11_init_19 (by decide) ?_
  refine ep_isN (k := 0) dX11_init_20 (Nat.le_of_ble_eq_true rfl) (Nat.le_of_ble_eq_true rfl) (len := 6) rfl (by decide) (by decide) ?_
  refine ep_dup dX11_init_21 rfl ?_
  refine ep_iconst (v := 1) dX11_init_22 (by decide) ?_
  refine ep_iconst (v := 1) dX11_init_23 (by decide) ?_
  refine ep_isN (k := 1) dX11_init_24 (Nat.le_of_ble_eq_true rfl) (Nat.le_of_ble_eq_true rfl) (len := 6) rfl (by decide) (by decide) ?_
  refine ep_dup dX11_init_25 rfl ?_
  refine ep_iconst (v := 2) dX11_init_26 (by decide) ?_
  refine ep_iconst (v := 3) dX11_init_27 (by decide) ?_
  refine ep_isN (k := 2) dX11_init_28 (Nat.le_of_ble_eq_true rfl) (Nat.le_of_ble_eq_true rfl) (len := 6) rfl (by decide) (by decide) ?_
  refine ep_dup dX11_init_29 rfl ?_
  refine ep_iconst (v := 3) dX11_init_30 (by decide) ?_
  refine ep_iconst (v := 5) dX11_init_31 (by decide) ?_
  refine ep_isN (k := 3) dX11_init_32 (Nat.le_of_ble_eq_true rfl) (Nat.le_of_ble_eq_true rfl) (len := 6) rfl (by decide) (by decide) ?_
  refine ep_dup dX11_init_33 rfl ?_
  refine ep_iconst (v := 4) dX11_init_34 (by decide) ?_
  refine ep_bipush (v := 7) dX11_init_35 (by decide) ?_
  refine ep_isN (k := 4) dX11_init_37 (Nat.le_of_ble_eq_true rfl) (Nat.le_of_ble_eq_true rfl) (len := 6) rfl (by decide) (by decide) ?_
  refine ep_dup dX11_init_38 rfl ?_
  refine ep_iconst (v := 5) dX11_init_39 (by decide) ?_
  refine ep_bipush (v := 9) dX11_init_40 (by decide) ?_
  refine ep_isN (k := 5) dX11_init_42 (Nat.le_of_ble_eq_true rfl) (Nat.le_of_ble_eq_true rfl) (len := 6) rfl (by decide) (by decide) ?_
  refine ep_putR dX11_init_43 plX11_13 (fun _ => rfl) (Nat.le_of_ble_eq_true rfl) hk (Or.inl (Nat.le_of_ble_eq_true rfl)) ?_
  refine ep_aload_n (i := 0) dX11_init_46 rfl rfl ?_
  refine ep_bipush (v := 20) dX11_init_47 (by decide) ?_
  refine ep_newa (t := 0) (N := 20) dX11_init_49 rfl ac_int (Or.inl ⟨rfl, rfl⟩) (by decide) (by decide) (by decide) (Nat.le_of_ble_eq_true rfl) (z_ok2 (by decide)) ?_
  show eb_P _ _ 51 [(0, .ref 112)] [.ref 115, .ref 112] (116, (sl.1 + 3, sl.2 + 52), _, _, _, _) _
  refine ep_putR dX11_init_51 plX11_16 (fun _ => rfl) (Nat.le_of_ble_eq_true rfl) hk (Or.inl (Nat.le_of_ble_eq_true rfl)) ?_
  refine ep_aload_n (i := 0) dX11_init_54 rfl rfl ?_
  refine ep_iconst (v := 1) dX11_init_55 (by decide) ?_
  refine ep_pI dX11_init_56 plX11_19 (Nat.le_of_ble_eq_true rfl) (Nat.le_of_ble_eq_true rfl) hk rfl rfl ?_
  refine ep_aload_n (i := 0) dX11_init_59 rfl rfl ?_
  refine ep_bipush (v := 80) dX11_init_60 (by decide) ?_
  refine ep_newa (t := 1) (N := 80) dX11_init_62 rfl ac_byte (Or.inr (Or.inl ⟨rfl, rfl⟩)) (by decide) (by decide) (by decide) (Nat.le_of_ble_eq_true rfl) (z_ok2 (by decide)) ?_
  show eb_P _ _ 64 [(0, .ref 112)] [.ref 116, .ref 112] (117, (sl.1 + 4, sl.2 + 132), _, _, _, _) _
  refine ep_putR dX11_init_64 plX11_23 (fun _ => rfl) (Nat.le_of_ble_eq_true rfl) hk (Or.inl (Nat.le_of_ble_eq_true rfl)) ?_
  refine ep_aload_n (i := 0) dX11_init_67 rfl rfl ?_
  refine ep_bipush (v := 16) dX11_init_68 (by decide) ?_
  refine ep_newa (t := 3) (N := 16) dX11_init_70 rfl ac_long (Or.inr (Or.inr (Or.inr ⟨rfl, rfl⟩))) (by decide) (by decide) (by decide) (Nat.le_of_ble_eq_true rfl) (z_ok2 (by decide)) ?_
  show eb_P _ _ 72 [(0, .ref 112)] [.ref 117, .ref 112] (118, (sl.1 + 5, sl.2 + 148), _, _, _, _) _
  refine ep_putR dX11_init_72 plX11_27 (fun _ => rfl) (Nat.le_of_ble_eq_true rfl) hk (Or.inl (Nat.le_of_ble_eq_true rfl)) ?_
  refine ep_aload_n (i := 0) dX11_init_75 rfl rfl ?_
  refine ep_bipush (v := 42) dX11_init_76 (by decide) ?_
  refine ep_newa (t := 0) (N := 42) dX11_init_78 rfl ac_int (Or.inl ⟨rfl, rfl⟩) (by decide) (by decide) (by decide) (Nat.le_of_ble_eq_true rfl) (z_ok2 (by decide)) ?_
  show eb_P _ _ 80 [(0, .ref 112)] [.ref 118, .ref 112] (119, (sl.1 + 6, sl.2 + 190), _, _, _, _) _
  refine ep_putR dX11_init_80 plX11_31 (fun _ => rfl) (Nat.le_of_ble_eq_true rfl) hk (Or.inl (Nat.le_of_ble_eq_true rfl)) ?_
  refine ep_aload_n (i := 0) dX11_init_83 rfl rfl ?_
  refine ep_bipush (v := 40) dX11_init_84 (by decide) ?_
  refine ep_newa (t := 1) (N := 40) dX11_init_86 rfl ac_byte (Or.inr (Or.inl ⟨rfl, rfl⟩)) (by decide) (by decide) (by decide) (Nat.le_of_ble_eq_true rfl) (z_ok2 (by decide)) ?_
  show eb_P _ _ 88 [(0, .ref 112)] [.ref 119, .ref 112] (120, (sl.1 + 7, sl.2 + 230), _, _, _, _) _
  refine ep_putR dX11_init_88 plX11_34 (fun h => by cases h) (Nat.le_of_ble_eq_true rfl) hk (Or.inl (Nat.le_of_ble_eq_true rfl)) ?_
  refine ep_aload_n (i := 0) dX11_init_91 rfl rfl ?_
  refine ep_bipush (v := 40) dX11_init_92 (by decide) ?_
  refine ep_newa (t := 1) (N := 40) dX11_init_94 rfl ac_byte (Or.inr (Or.inl ⟨rfl, rfl⟩)) (by decide) (by decide) (by decide) (Nat.le_of_ble_eq_true rfl) (z_ok2 (by decide)) ?_
  show eb_P _ _ 96 [(0, .ref 112)] [.ref 120, .ref 112] (121, (sl.1 + 8, sl.2 + 270), _, _, _, _) _
  refine ep_putR dX11_init_96 plX11_37 (fun h => by cases h) (Nat.le_of_ble_eq_true rfl) hk (Or.inl (Nat.le_of_ble_eq_true rfl)) ?_
  refine ep_aload_n (i := 0) dX11_init_99 rfl rfl ?_
  refine ep_bipush (v := 7) dX11_init_100 (by decide) ?_
  refine ep_newa (t := 0) (N := 7) dX11_init_102 rfl ac_int (Or.inl ⟨rfl, rfl⟩) (by decide) (by decide) (by decide) (Nat.le_of_ble_eq_true rfl) (z_ok2 (by decide)) ?_
  show eb_P _ _ 104 [(0, .ref 112)] [.ref 121, .ref 112] (122, (sl.1 + 9, sl.2 + 277), _, _, _, _) _
  refine ep_putR dX11_init_104 plX11_40 (fun _ => rfl) (Nat.le_of_ble_eq_true rfl) hk (Or.inl (Nat.le_of_ble_eq_true rfl)) ?_
  refine ep_aload_n (i := 0) dX11_init_107 rfl rfl ?_
  refine ep_sipush (v := 312) dX11_init_108 (by decide) ?_
  refine ep_newa (t := 0) (N := 312) dX11_init_111 rfl ac_int (Or.inl ⟨rfl, rfl⟩) (by decide) (by decide) (by decide) (Nat.le_of_ble_eq_true rfl) (z_ok2 (by decide)) ?_
  show eb_P _ _ 113 [(0, .ref 112)] [.ref 122, .ref 112] (123, (sl.1 + 10, sl.2 + 589), _, _, _, _) _
  refine ep_putR dX11_init_113 plX11_43 (fun _ => rfl) (Nat.le_of_ble_eq_true rfl) hk (Or.inl (Nat.le_of_ble_eq_true rfl)) ?_
  refine ep_aload_n (i := 0) dX11_init_116 rfl rfl ?_
  refine ep_bipush (v := 26) dX11_init_117 (by decide) ?_
  refine ep_newa (t := 0) (N := 26) dX11_init_119 rfl ac_int (Or.inl ⟨rfl, rfl⟩) (by decide) (by decide) (by decide) (Nat.le_of_ble_eq_true rfl) (z_ok2 (by decide)) ?_
  show eb_P _ _ 121 [(0, .ref 112)] [.ref 123, .ref 112] (124, (sl.1 + 11, sl.2 + 615), _, _, _, _) _
  refine ep_putR dX11_init_121 plX11_46 (fun _ => rfl) (Nat.le_of_ble_eq_true rfl) hk (Or.inl (Nat.le_of_ble_eq_true rfl)) ?_
  refine ep_aload_n (i := 0) dX11_init_124 rfl rfl ?_
  refine ep_bipush (v := 26) dX11_init_125 (by decide) ?_
  refine ep_newa (t := 0) (N := 26) dX11_init_127 rfl ac_int (Or.inl ⟨rfl, rfl⟩) (by decide) (by decide) (by decide) (Nat.le_of_ble_eq_true rfl) (z_ok2 (by decide)) ?_
  show eb_P _ _ 129 [(0, .ref 112)] [.ref 124, .ref 112] (125, (sl.1 + 12, sl.2 + 641), _, _, _, _) _
  refine ep_putR dX11_init_129 plX11_49 (fun _ => rfl) (Nat.le_of_ble_eq_true rfl) hk (Or.inl (Nat.le_of_ble_eq_true rfl)) ?_
  refine ep_aload_n (i := 0) dX11_init_132 rfl rfl ?_
  refine ep_sipush (v := 240) dX11_init_133 (by decide) ?_
  refine ep_newa (t := 0) (N := 240) dX11_init_136 rfl ac_int (Or.inl ⟨rfl, rfl⟩) (by decide) (by decide) (by decide) (Nat.le_of_ble_eq_true rfl) (z_ok2 (by decide)) ?_
  show eb_P _ _ 138 [(0, .ref 112)] [.ref 125, .ref 112] (126, (sl.1 + 13, sl.2 + 881), _, _, _, _) _
  refine ep_putR dX11_init_138 plX11_52 (fun _ => rfl) (Nat.le_of_ble_eq_true rfl) hk (Or.inl (Nat.le_of_ble_eq_true rfl)) ?_
  refine ep_aload_n (i := 0) dX11_init_141 rfl rfl ?_
  refine ep_bipush (v := 10) dX11_init_142 (by decide) ?_
  refine ep_newa (t := 0) (N := 10) dX11_init_144 rfl ac_int (Or.inl ⟨rfl, rfl⟩) (by decide) (by decide) (by decide) (Nat.le_of_ble_eq_true rfl) (z_ok2 (by decide)) ?_
  show eb_P _ _ 146 [(0, .ref 112)] [.ref 126, .ref 112] (127, (sl.1 + 14, sl.2 + 891), _, _, _, _) _
  refine ep_putR dX11_init_146 plX11_55 (fun _ => rfl) (Nat.le_of_ble_eq_true rfl) hk (Or.inl (Nat.le_of_ble_eq_true rfl)) ?_
  refine ep_aload_n (i := 0) dX11_init_149 rfl rfl ?_
  refine ep_bipush (v := 10) dX11_init_150 (by decide) ?_
  refine ep_newa (t := 0) (N := 10) dX11_init_152 rfl ac_int (Or.inl ⟨rfl, rfl⟩) (by decide) (by decide) (by decide) (Nat.le_of_ble_eq_true rfl) (z_ok2 (by decide)) ?_
  show eb_P _ _ 154 [(0, .ref 112)] [.ref 127, .ref 112] (128, (sl.1 + 15, sl.2 + 901), _, _, _, _) _
  refine ep_putR dX11_init_154 plX11_58 (fun _ => rfl) (Nat.le_of_ble_eq_true rfl) hk (Or.inl (Nat.le_of_ble_eq_true rfl)) ?_
  refine ep_aload_n (i := 0) dX11_init_157 rfl rfl ?_
  refine ep_bipush (v := 10) dX11_init_158 (by decide) ?_
  refine ep_newa (t := 0) (N := 10) dX11_init_160 rfl ac_int (Or.inl ⟨rfl, rfl⟩) (by decide) (by decide) (by decide) (Nat.le_of_ble_eq_true rfl) (z_ok2 (by decide)) ?_
  show eb_P _ _ 162 [(0, .ref 112)] [.ref 128, .ref 112] (129, (sl.1 + 16, sl.2 + 911), _, _, _, _) _
  refine ep_putR dX11_init_162 plX11_61 (fun _ => rfl) (Nat.le_of_ble_eq_true rfl) hk (Or.inl (Nat.le_of_ble_eq_true rfl)) ?_
  refine ep_aload_n (i := 0) dX11_init_165 rfl rfl ?_
  refine ep_bipush (v := 6) dX11_init_166 (by decide) ?_
  refine ep_newa (t := 0) (N := 6) dX11_init_168 rfl ac_int (Or.inl ⟨rfl, rfl⟩) (by decide) (by decide) (by decide) (Nat.le_of_ble_eq_true rfl) (z_ok2 (by decide)) ?_
  show eb_P _ _ 170 [(0, .ref 112)] [.ref 129, .ref 112] (130, (sl.1 + 17, sl.2 + 917), _, _, _, _) _
  refine ep_putR dX11_init_170 plX11_64 (fun _ => rfl) (Nat.le_of_ble_eq_true rfl) hk (Or.inl (Nat.le_of_ble_eq_true rfl)) ?_
  refine ep_aload_n (i := 0) dX11_init_173 rfl rfl ?_
  refine ep_bipush (v := 12) dX11_init_174 (by decide) ?_
  refine ep_newa (t := 0) (N := 12) dX11_init_176 rfl ac_int (Or.inl ⟨rfl, rfl⟩) (by decide) (by decide) (by decide) (Nat.le_of_ble_eq_true rfl) (z_ok2 (by decide)) ?_
  show eb_P _ _ 178 [(0, .ref 112)] [.ref 130, .ref 112] (131, (sl.1 + 18, sl.2 + 929), _, _, _, _) _
  refine ep_putR dX11_init_178 plX11_67 (fun _ => rfl) (Nat.le_of_ble_eq_true rfl) hk (Or.inl (Nat.le_of_ble_eq_true rfl)) ?_
  refine ep_aload_n (i := 0) dX11_init_181 rfl rfl ?_
  refine ep_bipush (v := 12) dX11_init_182 (by decide) ?_
  refine ep_newa (t := 0) (N := 12) dX11_init_184 rfl ac_int (Or.inl ⟨rfl, rfl⟩) (by decide) (by decide) (by decide) (Nat.le_of_ble_eq_true rfl) (z_ok2 (by decide)) ?_
  show eb_P _ _ 186 [(0, .ref 112)] [.ref 131, .ref 112] (132, (sl.1 + 19, sl.2 + 941), _, _, _, _) _
  refine ep_putR dX11_init_186 plX11_70 (fun _ => rfl) (Nat.le_of_ble_eq_true rfl) hk (Or.inl (Nat.le_of_ble_eq_true rfl)) ?_
  refine ep_aload_n (i := 0) dX11_init_189 rfl rfl ?_
  refine ep_sipush (v := 512) dX11_init_190 (by decide) ?_
  refine ep_newa (t := 2) (N := 512) dX11_init_193 rfl ac_boolean (Or.inr (Or.inr (Or.inl ⟨rfl, rfl⟩))) (by decide) (by decide) (by decide) (Nat.le_of_ble_eq_true rfl) (z_ok2 (by decide)) ?_
  show eb_P _ _ 195 [(0, .ref 112)] [.ref 132, .ref 112] (133, (sl.1 + 20, sl.2 + 1453), _, _, _, _) _
  refine ep_putR dX11_init_195 plX11_73 (fun _ => rfl) (Nat.le_of_ble_eq_true rfl) hk (Or.inl (Nat.le_of_ble_eq_true rfl)) ?_
  refine ep_aload_n (i := 0) dX11_init_198 rfl rfl ?_
  refine ep_iconst (v := 3) dX11_init_199 (by decide) ?_
  refine ep_newa (t := 0) (N := 3) dX11_init_200 rfl ac_int (Or.inl ⟨rfl, rfl⟩) (by decide) (by decide) (by decide) (Nat.le_of_ble_eq_true rfl) (z_ok2 (by decide)) ?_
  show eb_P _ _ 202 [(0, .ref 112)] [.ref 133, .ref 112] (134, (sl.1 + 21, sl.2 + 1456), _, _, _, _) _
  refine ep_putR dX11_init_202 plX11_77 (fun _ => rfl) (Nat.le_of_ble_eq_true rfl) hk (Or.inl (Nat.le_of_ble_eq_true rfl)) ?_
  refine ep_aload_n (i := 0) dX11_init_205 rfl rfl ?_
  refine ep_bipush (v := 52) dX11_init_206 (by decide) ?_
  refine ep_newa (t := 0) (N := 52) dX11_init_208 rfl ac_int (Or.inl ⟨rfl, rfl⟩) (by decide) (by decide) (by decide) (Nat.le_of_ble_eq_true rfl) (z_ok2 (by decide)) ?_
  show eb_P _ _ 210 [(0, .ref 112)] [.ref 134, .ref 112] (135, (sl.1 + 22, sl.2 + 1508), _, _, _, _) _
  refine ep_putR dX11_init_210 plX11_80 (fun _ => rfl) (Nat.le_of_ble_eq_true rfl) hk (Or.inl (Nat.le_of_ble_eq_true rfl)) ?_
  refine ep_aload_n (i := 0) dX11_init_213 rfl rfl ?_
  refine ep_iconst (v := 2) dX11_init_214 (by decide) ?_
  refine ep_newa (t := 2) (N := 2) dX11_init_215 rfl ac_boolean (Or.inr (Or.inr (Or.inl ⟨rfl, rfl⟩))) (by decide) (by decide) (by decide) (Nat.le_of_ble_eq_true rfl) (z_ok2 (by decide)) ?_
  show eb_P _ _ 217 [(0, .ref 112)] [.ref 135, .ref 112] (136, (sl.1 + 23, sl.2 + 1510), _, _, _, _) _
  refine ep_putR dX11_init_217 plX11_83 (fun _ => rfl) (Nat.le_of_ble_eq_true rfl) hk (Or.inl (Nat.le_of_ble_eq_true rfl)) ?_
  refine ep_aload_n (i := 0) dX11_init_220 rfl rfl ?_
  refine ep_iconst (v := 2) dX11_init_221 (by decide) ?_
  refine ep_newa (t := 0) (N := 2) dX11_init_222 rfl ac_int (Or.inl ⟨rfl, rfl⟩) (by decide) (by decide) (by decide) (Nat.le_of_ble_eq_true rfl) (z_ok2 (by decide)) ?_
  show eb_P _ _ 224 [(0, .ref 112)] [.ref 136, .ref 112] (137, (sl.1 + 24, sl.2 + 1512), _, _, _, _) _
  refine ep_putR dX11_init_224 plX11_86 (fun _ => rfl) (Nat.le_of_ble_eq_true rfl) hk (Or.inl (Nat.le_of_ble_eq_true rfl)) ?_
  refine ep_aload_n (i := 0) dX11_init_227 rfl rfl ?_
  refine ep_getR dX11_init_228 flX11_9 (Nat.le_of_ble_eq_true rfl) hk (j := 113) rfl ?_
  refine ep_bipush (v := 21) dX11_init_231 (by decide) ?_
  refine ep_iconst (v := 5) dX11_init_233 (by decide) ?_
  refine ep_isN (k := 21) dX11_init_234 (Nat.le_of_ble_eq_true rfl) (Nat.le_of_ble_eq_true rfl) (len := 26) rfl (by decide) (by decide) ?_
  refine ep_vret dX11_init_235 rfl ?_
  exact ⟨rfl, rfl⟩
