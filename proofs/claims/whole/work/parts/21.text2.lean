/-! Text: faults; Past -/
def z_thf (t : Nat → Int32) (m : Nat) (r : Int32) : Prop := ∃ x, z_fst (z_bad t 1 6) m x ∧ r = if x = -1 ∧ m < 6 then nI m else x
def z_brf (t : Nat → Int32) (m c : Nat) (r : Int32) : Prop := ∃ x, z_fst (z_bad t 2 (min (5 * (7 - c)) 34)) m x ∧ r = if x = -1 ∧ ¬ (m = 0 ∨ m % 5 = 4) then nI m else x
def z_wif (t : Nat → Int32) (m : Nat) (r : Int32) : Prop := ∃ x, z_fst (z_bad t 3 40) m x ∧ r = if x = -1 ∧ (m = 0 ∨ m % 2 = 1) then nI m else x
theorem q_X9_takeFour_no {n : Nat} {sl : Nat × Nat} {kd : Nat → Nat × Nat} {I : Nat → Nat → Int32} {L : Nat → Nat → Int64} {Rf : Nat → Nat → Option Nat} (d : Nat) {i : Nat} (h : eb_txt n kd Rf i) {m : Nat} (hm : I i 1 = nI m) (hm8 : 80 < m + 4) (hm9 : m ≤ 80) (v : Int32) : eb_Q mX9_takeFour d [.ref i, .int v] (n, sl, kd, I, L, Rf) (eb_r 0 (n, sl, kd, I, L, Rf)) := by
  refine ep_meth pn_X.2.2.2.2.2.2.2.2.2.1 (Nat.le_of_ble_eq_true rfl) ?_
  show eb_P mX9_takeFour (d) 0 [(0, .ref i), (1, .int v)] [] (n, sl, kd, I, L, Rf) _
  refine ep_aload_n (i := 0) dX9_takeFour_0 rfl rfl ?_
  refine ep_getI dX9_takeFour_1 flX9_15 (by have := h.2.2.2.1; omega) h.1 ?_
  refine ep_topE (y := nI m) hm ?_
  refine ep_iconst (v := 4) dX9_takeFour_4 (by decide) ?_
  refine ep_iadd dX9_takeFour_5 ?_
  refine ep_aload_n (i := 0) dX9_takeFour_6 rfl rfl ?_
  refine ep_getR dX9_takeFour_7 flX9_9 (by have := h.2.2.2.1; omega) h.1 h.2.2.1 ?_
  refine ep_alen (v := 80) dX9_takeFour_10 h.2.2.2.1 h.2.1 (by decide) (by decide) ?_
  refine ep_icmp_le (tgt := 16) dX9_takeFour_11 (by decide) (fun c1 => absurd c1 (by rw [show nI m + 4 = nI (m + 4) from nI_add m 4]; exact nI_ge (a := 80) hm8 (by omega))) (fun c1 => ?_)
  refine ep_iconst (v := 0) dX9_takeFour_14 (by decide) ?_
  refine ep_iret dX9_takeFour_15 rfl rfl ?_
  exact ⟨rfl, rfl⟩
theorem q_X9_thoughtsFault {n : Nat} {sl : Nat × Nat} {kd : Nat → Nat × Nat} {I : Nat → Nat → Int32} {L : Nat → Nat → Int64} {Rf : Nat → Nat → Option Nat} (d : Nat) {i : Nat} (h : eb_txt n kd Rf i) {m : Nat} (hm : I i 1 = nI m) (hm8 : m ≤ 80)  : eb_Q mX9_thoughtsFault (d + 5) [.ref i] (n, sl, kd, I, L, Rf) (eb_rq (z_thf (I (i + 1)) m) (n, sl, kd, I, L, Rf)) := by
  refine ep_meth pn_X.2.2.2.2.2.2.2.2.2.1 (Nat.le_of_ble_eq_true rfl) ?_
  show eb_P mX9_thoughtsFault (d + 5) 0 [(0, .ref i)] [] (n, sl, kd, I, L, Rf) _
  refine ep_aload_n (i := 0) dX9_thoughtsFault_0 rfl rfl ?_
  refine ep_ldcS (i := 1) (tx := "9") dX9_thoughtsFault_1 (by decide) ?_
  refine ep_bipush (v := 6) dX9_thoughtsFault_3 (by decide) ?_
  refine ep_callV (M1 := mX9_faultOf) (rest := []) dX9_thoughtsFault_5 mlX9_28 mvX9_faultOf rfl (by have := h.2.2.2.1; omega) h.1 (Nat.le_of_ble_eq_true rfl) rfl (q_X9_faultOf (f := 1) (mm := 6) d h hm hm8 (by decide) (by decide) (by decide) (by omega)) eb_rqok ?_
  rintro _ _ ⟨rfl, x, rfl, hx⟩
  show eb_P _ _ 8 [(0, .ref i)] (.int x :: []) _ _
  refine ep_istore_n (l' := [(1, .int x), (0, .ref i)]) dX9_thoughtsFault_8 rfl (by decide) rfl ?_
  refine ep_iload_n (i := 1) dX9_thoughtsFault_9 rfl rfl ?_
  refine ep_iconst (v := (-1)) dX9_thoughtsFault_10 (by decide) ?_
  refine ep_icmp_ne (tgt := 30) dX9_thoughtsFault_11 (by decide) (fun c1 => ?_) (fun c1 => ?_)
  · skip
    refine ep_iload_n (i := 1) dX9_thoughtsFault_30 rfl rfl ?_
    refine ep_iret dX9_thoughtsFault_31 rfl rfl ?_
    exact ⟨rfl, _, rfl, x, hx, by first | rw [if_pos ⟨by first | assumption | (exact Classical.not_not.mp (by assumption)), by have g1 := nI_ltI (a := m) (b := 6) (by omega) (by decide); first | exact g1.mp (by assumption) | exact g1.mp (Int32.not_le.mp (by assumption))⟩] | rw [if_neg (by rintro ⟨g1, g2⟩; first | contradiction | exact absurd (nI_ge (a := m) (b := 6) g2 (by decide)) (by first | assumption | exact Classical.not_not.mpr (by assumption)))]⟩
  · skip
    refine ep_aload_n (i := 0) dX9_thoughtsFault_14 rfl rfl ?_
    refine ep_getI dX9_thoughtsFault_15 flX9_15 (by have := h.2.2.2.1; omega) h.1 ?_
    refine ep_topE (y := nI m) hm ?_
    refine ep_bipush (v := 6) dX9_thoughtsFault_18 (by decide) ?_
    refine ep_icmp_ge (tgt := 30) dX9_thoughtsFault_20 (by decide) (fun c2 => ?_) (fun c2 => ?_)
    · skip
      refine ep_iload_n (i := 1) dX9_thoughtsFault_30 rfl rfl ?_
      refine ep_iret dX9_thoughtsFault_31 rfl rfl ?_
      exact ⟨rfl, _, rfl, x, hx, by first | rw [if_pos ⟨by first | assumption | (exact Classical.not_not.mp (by assumption)), by have g1 := nI_ltI (a := m) (b := 6) (by omega) (by decide); first | exact g1.mp (by assumption) | exact g1.mp (Int32.not_le.mp (by assumption))⟩] | rw [if_neg (by rintro ⟨g1, g2⟩; first | contradiction | exact absurd (nI_ge (a := m) (b := 6) g2 (by decide)) (by first | assumption | exact Classical.not_not.mpr (by assumption)))]⟩
    · skip
      refine ep_aload_n (i := 0) dX9_thoughtsFault_23 rfl rfl ?_
      refine ep_getI dX9_thoughtsFault_24 flX9_15 (by have := h.2.2.2.1; omega) h.1 ?_
      refine ep_topE (y := nI m) hm ?_
      refine ep_goto (tgt := 31) dX9_thoughtsFault_27 (by decide) ?_
      refine ep_iret dX9_thoughtsFault_31 rfl rfl ?_
      exact ⟨rfl, _, rfl, x, hx, by first | rw [if_pos ⟨by first | assumption | (exact Classical.not_not.mp (by assumption)), by have g1 := nI_ltI (a := m) (b := 6) (by omega) (by decide); first | exact g1.mp (by assumption) | exact g1.mp (Int32.not_le.mp (by assumption))⟩] | rw [if_neg (by rintro ⟨g1, g2⟩; first | contradiction | exact absurd (nI_ge (a := m) (b := 6) g2 (by decide)) (by first | assumption | exact Classical.not_not.mpr (by assumption)))]⟩
theorem q_X9_windsFault {n : Nat} {sl : Nat × Nat} {kd : Nat → Nat × Nat} {I : Nat → Nat → Int32} {L : Nat → Nat → Int64} {Rf : Nat → Nat → Option Nat} (d : Nat) {i : Nat} (h : eb_txt n kd Rf i) {m : Nat} (hm : I i 1 = nI m) (hm8 : m ≤ 80)  : eb_Q mX9_windsFault (d + 5) [.ref i] (n, sl, kd, I, L, Rf) (eb_rq (z_wif (I (i + 1)) m) (n, sl, kd, I, L, Rf)) := by
  refine ep_meth pn_X.2.2.2.2.2.2.2.2.2.1 (Nat.le_of_ble_eq_true rfl) ?_
  show eb_P mX9_windsFault (d + 5) 0 [(0, .ref i)] [] (n, sl, kd, I, L, Rf) _
  refine ep_aload_n (i := 0) dX9_windsFault_0 rfl rfl ?_
  refine ep_ldcS (i := 3) (tx := "+9") dX9_windsFault_1 (by decide) ?_
  refine ep_bipush (v := 40) dX9_windsFault_3 (by decide) ?_
  refine ep_callV (M1 := mX9_faultOf) (rest := []) dX9_windsFault_5 mlX9_28 mvX9_faultOf rfl (by have := h.2.2.2.1; omega) h.1 (Nat.le_of_ble_eq_true rfl) rfl (q_X9_faultOf (f := 3) (mm := 40) d h hm hm8 (by decide) (by decide) (by decide) (by omega)) eb_rqok ?_
  rintro _ _ ⟨rfl, x, rfl, hx⟩
  show eb_P _ _ 8 [(0, .ref i)] (.int x :: []) _ _
  refine ep_istore_n (l' := [(1, .int x), (0, .ref i)]) dX9_windsFault_8 rfl (by decide) rfl ?_
  refine ep_iload_n (i := 1) dX9_windsFault_9 rfl rfl ?_
  refine ep_iconst (v := (-1)) dX9_windsFault_10 (by decide) ?_
  refine ep_icmp_ne (tgt := 38) dX9_windsFault_11 (by decide) (fun c1 => ?_) (fun c1 => ?_)
  · skip
    refine ep_iload_n (i := 1) dX9_windsFault_38 rfl rfl ?_
    refine ep_iret dX9_windsFault_39 rfl rfl ?_
    exact ⟨rfl, _, rfl, x, hx, by
    have g1 : nI (m % 2) = 1 ↔ m % 2 = 1 := (nI_inj2 (a := m % 2) (b := 1) (by omega) (by decide))
    have g2 : nI m = 0 ↔ m = 0 := (nI_inj2 (a := m) (b := 0) (by omega) (by decide))
    simp_all⟩
  · skip
    refine ep_aload_n (i := 0) dX9_windsFault_14 rfl rfl ?_
    refine ep_getI dX9_windsFault_15 flX9_15 (by have := h.2.2.2.1; omega) h.1 ?_
    refine ep_topE (y := nI m) hm ?_
    refine ep_if_eq (tgt := 31) dX9_windsFault_18 (by decide) (fun c2 => ?_) (fun c2 => ?_)
    · skip
      refine ep_aload_n (i := 0) dX9_windsFault_31 rfl rfl ?_
      refine ep_getI dX9_windsFault_32 flX9_15 (by have := h.2.2.2.1; omega) h.1 ?_
      refine ep_topE (y := nI m) hm ?_
      refine ep_goto (tgt := 39) dX9_windsFault_35 (by decide) ?_
      refine ep_iret dX9_windsFault_39 rfl rfl ?_
      exact ⟨rfl, _, rfl, x, hx, by
    have g1 : nI (m % 2) = 1 ↔ m % 2 = 1 := (nI_inj2 (a := m % 2) (b := 1) (by omega) (by decide))
    have g2 : nI m = 0 ↔ m = 0 := (nI_inj2 (a := m) (b := 0) (by omega) (by decide))
    simp_all⟩
    · skip
      refine ep_aload_n (i := 0) dX9_windsFault_21 rfl rfl ?_
      refine ep_getI dX9_windsFault_22 flX9_15 (by have := h.2.2.2.1; omega) h.1 ?_
      refine ep_topE (y := nI m) hm ?_
      refine ep_iconst (v := 2) dX9_windsFault_25 (by decide) ?_
      refine ep_irem dX9_windsFault_26 (by decide) ?_
      refine ep_topE (y := nI (m % 2)) (pk_rem (a := m) (d := 2) (by omega) (by decide) (by decide)) ?_
      refine ep_iconst (v := 1) dX9_windsFault_27 (by decide) ?_
      refine ep_icmp_ne (tgt := 38) dX9_windsFault_28 (by decide) (fun c3 => ?_) (fun c3 => ?_)
      · skip
        refine ep_iload_n (i := 1) dX9_windsFault_38 rfl rfl ?_
        refine ep_iret dX9_windsFault_39 rfl rfl ?_
        exact ⟨rfl, _, rfl, x, hx, by
    have g1 : nI (m % 2) = 1 ↔ m % 2 = 1 := (nI_inj2 (a := m % 2) (b := 1) (by omega) (by decide))
    have g2 : nI m = 0 ↔ m = 0 := (nI_inj2 (a := m) (b := 0) (by omega) (by decide))
    simp_all⟩
      · skip
        refine ep_aload_n (i := 0) dX9_windsFault_31 rfl rfl ?_
        refine ep_getI dX9_windsFault_32 flX9_15 (by have := h.2.2.2.1; omega) h.1 ?_
        refine ep_topE (y := nI m) hm ?_
        refine ep_goto (tgt := 39) dX9_windsFault_35 (by decide) ?_
        refine ep_iret dX9_windsFault_39 rfl rfl ?_
        exact ⟨rfl, _, rfl, x, hx, by
    have g1 : nI (m % 2) = 1 ↔ m % 2 = 1 := (nI_inj2 (a := m % 2) (b := 1) (by omega) (by decide))
    have g2 : nI m = 0 ↔ m = 0 := (nI_inj2 (a := m) (b := 0) (by omega) (by decide))
    simp_all⟩
theorem q_X9_brothersFault {n : Nat} {sl : Nat × Nat} {kd : Nat → Nat × Nat} {I : Nat → Nat → Int32} {L : Nat → Nat → Int64} {Rf : Nat → Nat → Option Nat} (d : Nat) {i : Nat} (h : eb_txt n kd Rf i) {m : Nat} (hm : I i 1 = nI m) (hm8 : m ≤ 80) {c : Nat} (hc7 : c ≤ 7) : eb_Q mX9_brothersFault (d + 5) [.ref i, .int (nI c)] (n, sl, kd, I, L, Rf) (eb_rq (z_brf (I (i + 1)) m c) (n, sl, kd, I, L, Rf)) := by
  refine ep_meth pn_X.2.2.2.2.2.2.2.2.2.1 (Nat.le_of_ble_eq_true rfl) ?_
  show eb_P mX9_brothersFault (d + 5) 0 [(0, .ref i), (1, .int (nI c))] [] (n, sl, kd, I, L, Rf) _
  refine ep_bipush (v := 7) dX9_brothersFault_0 (by decide) ?_
  refine ep_iload_n (i := 1) dX9_brothersFault_2 rfl rfl ?_
  refine ep_isub dX9_brothersFault_3 ?_
  refine ep_topE (y := nI (7 - c)) (pk_sub (a := 7) (b := c) hc7) ?_
  refine ep_ldcS (i := 2) (tx := "95+5;") dX9_brothersFault_4 (by decide) ?_
  refine ep_callT (M1 := mJ0_length_8abf5) (i := 2) (rest := [.int (nI (7 - c))]) (by decide) rfl dX9_brothersFault_6 mkX9_34 mcJ0_length_8abf5 mtJ0_length_8abf5 rfl (Nat.le_of_ble_eq_true rfl) rfl (q_J0_length_8abf5 (i := 2) (d + 3) (by decide)) eb_rok ?_
  rintro _ _ ⟨rfl, rfl⟩
  show eb_P _ _ 9 [(0, .ref i), (1, .int (nI c))] (.int (nI (z_ln 2)) :: [.int (nI (7 - c))]) _ _
  refine ep_imul dX9_brothersFault_9 ?_
  refine ep_topE (y := nI (5 * (7 - c))) (by rw [pk_mul, Nat.mul_comm]; rfl) ?_
  refine ep_istore_n (l' := [(2, .int (nI (5 * (7 - c)))), (0, .ref i), (1, .int (nI c))]) dX9_brothersFault_10 rfl (by decide) rfl ?_
  refine ep_aload_n (i := 0) dX9_brothersFault_11 rfl rfl ?_
  refine ep_ldcS (i := 2) (tx := "95+5;") dX9_brothersFault_12 (by decide) ?_
  refine ep_iload_n (i := 2) dX9_brothersFault_14 rfl rfl ?_
  refine ep_bipush (v := 34) dX9_brothersFault_15 (by decide) ?_
  refine ep_min dX9_brothersFault_17 xmX9_40 (Nat.le_of_ble_eq_true rfl) ?_
  refine ep_topE (y := nI (min (5 * (7 - c)) 34)) (by have g1 : (34 : Int32) < nI (5 * (7 - c)) ↔ 34 < 5 * (7 - c) := nI_ltI (a := 34) (b := 5 * (7 - c)) (by decide) (by omega); by_cases g : 34 < 5 * (7 - c); exact (if_pos (g1.mpr g)).trans (by rw [Nat.min_eq_right (by omega)]; rfl); rw [if_neg (fun z => g (g1.mp z)), Nat.min_eq_left (by omega)]) ?_
  refine ep_callV (M1 := mX9_faultOf) (rest := []) dX9_brothersFault_20 mlX9_28 mvX9_faultOf rfl (by have := h.2.2.2.1; omega) h.1 (Nat.le_of_ble_eq_true rfl) rfl (q_X9_faultOf (f := 2) (mm := min (5 * (7 - c)) 34) d h hm hm8 (by decide) (by decide) (by decide) (by omega)) eb_rqok ?_
  rintro _ _ ⟨rfl, x, rfl, hx⟩
  show eb_P _ _ 23 [(2, .int (nI (5 * (7 - c)))), (0, .ref i), (1, .int (nI c))] (.int x :: []) _ _
  refine ep_istore_n (l' := [(3, .int x), (2, .int (nI (5 * (7 - c)))), (0, .ref i), (1, .int (nI c))]) dX9_brothersFault_23 rfl (by decide) rfl ?_
  refine ep_aload_n (i := 0) dX9_brothersFault_24 rfl rfl ?_
  refine ep_getI dX9_brothersFault_25 flX9_15 (by have := h.2.2.2.1; omega) h.1 ?_
  refine ep_topE (y := nI m) hm ?_
  refine ep_if_eq (tgt := 51) dX9_brothersFault_28 (by decide) (fun c1 => ?_) (fun c1 => ?_)
  · skip
    refine ep_iconst (v := 1) dX9_brothersFault_51 (by decide) ?_
    refine ep_goto (tgt := 56) dX9_brothersFault_52 (by decide) ?_
    refine ep_istore (l' := [(4, .int 1), (3, .int x), (2, .int (nI (5 * (7 - c)))), (0, .ref i), (1, .int (nI c))]) dX9_brothersFault_56 (by decide) rfl ?_
    refine ep_iload_n (i := 3) dX9_brothersFault_58 rfl rfl ?_
    refine ep_iconst (v := (-1)) dX9_brothersFault_59 (by decide) ?_
    refine ep_icmp_ne (tgt := 75) dX9_brothersFault_60 (by decide) (fun c2 => ?_) (fun c2 => ?_)
    · skip
      refine ep_iload_n (i := 3) dX9_brothersFault_75 rfl rfl ?_
      refine ep_iret dX9_brothersFault_76 rfl rfl ?_
      exact ⟨rfl, _, rfl, x, hx, by
    have g1 : nI (m % 5) = 4 ↔ m % 5 = 4 := (nI_inj2 (a := m % 5) (b := 4) (by omega) (by decide))
    have g2 : nI m = 0 ↔ m = 0 := (nI_inj2 (a := m) (b := 0) (by omega) (by decide))
    simp_all⟩
    · skip
      refine ep_iload (i := 4) dX9_brothersFault_63 rfl ?_
      refine ep_if_ne (tgt := 75) dX9_brothersFault_65 (by decide) (fun c3 => ?_) (fun c3 => absurd (by decide) c3)
      refine ep_iload_n (i := 3) dX9_brothersFault_75 rfl rfl ?_
      refine ep_iret dX9_brothersFault_76 rfl rfl ?_
      exact ⟨rfl, _, rfl, x, hx, by
    have g1 : nI (m % 5) = 4 ↔ m % 5 = 4 := (nI_inj2 (a := m % 5) (b := 4) (by omega) (by decide))
    have g2 : nI m = 0 ↔ m = 0 := (nI_inj2 (a := m) (b := 0) (by omega) (by decide))
    simp_all⟩
  · skip
    refine ep_aload_n (i := 0) dX9_brothersFault_31 rfl rfl ?_
    refine ep_getI dX9_brothersFault_32 flX9_15 (by have := h.2.2.2.1; omega) h.1 ?_
    refine ep_topE (y := nI m) hm ?_
    refine ep_ldcS (i := 2) (tx := "95+5;") dX9_brothersFault_35 (by decide) ?_
    refine ep_callT (M1 := mJ0_length_8abf5) (i := 2) (rest := [.int (nI m)]) (by decide) rfl dX9_brothersFault_37 mkX9_34 mcJ0_length_8abf5 mtJ0_length_8abf5 rfl (Nat.le_of_ble_eq_true rfl) rfl (q_J0_length_8abf5 (i := 2) (d + 3) (by decide)) eb_rok ?_
    rintro _ _ ⟨rfl, rfl⟩
    show eb_P _ _ 40 [(3, .int x), (2, .int (nI (5 * (7 - c)))), (0, .ref i), (1, .int (nI c))] (.int (nI (z_ln 2)) :: [.int (nI m)]) _ _
    refine ep_irem dX9_brothersFault_40 (by decide) ?_
    refine ep_topE (y := nI (m % 5)) (pk_rem (a := m) (d := 5) (by omega) (by decide) (by decide)) ?_
    refine ep_ldcS (i := 2) (tx := "95+5;") dX9_brothersFault_41 (by decide) ?_
    refine ep_callT (M1 := mJ0_length_8abf5) (i := 2) (rest := [.int (nI (m % 5))]) (by decide) rfl dX9_brothersFault_43 mkX9_34 mcJ0_length_8abf5 mtJ0_length_8abf5 rfl (Nat.le_of_ble_eq_true rfl) rfl (q_J0_length_8abf5 (i := 2) (d + 3) (by decide)) eb_rok ?_
    rintro _ _ ⟨rfl, rfl⟩
    show eb_P _ _ 46 [(3, .int x), (2, .int (nI (5 * (7 - c)))), (0, .ref i), (1, .int (nI c))] (.int (nI (z_ln 2)) :: [.int (nI (m % 5))]) _ _
    refine ep_iconst (v := 1) dX9_brothersFault_46 (by decide) ?_
    refine ep_isub dX9_brothersFault_47 ?_
    refine ep_topE (y := 4) (by decide) ?_
    refine ep_icmp_ne (tgt := 55) dX9_brothersFault_48 (by decide) (fun c4 => ?_) (fun c4 => ?_)
    · skip
      refine ep_iconst (v := 0) dX9_brothersFault_55 (by decide) ?_
      refine ep_istore (l' := [(4, .int 0), (3, .int x), (2, .int (nI (5 * (7 - c)))), (0, .ref i), (1, .int (nI c))]) dX9_brothersFault_56 (by decide) rfl ?_
      refine ep_iload_n (i := 3) dX9_brothersFault_58 rfl rfl ?_
      refine ep_iconst (v := (-1)) dX9_brothersFault_59 (by decide) ?_
      refine ep_icmp_ne (tgt := 75) dX9_brothersFault_60 (by decide) (fun c5 => ?_) (fun c5 => ?_)
      · skip
        refine ep_iload_n (i := 3) dX9_brothersFault_75 rfl rfl ?_
        refine ep_iret dX9_brothersFault_76 rfl rfl ?_
        exact ⟨rfl, _, rfl, x, hx, by
    have g1 : nI (m % 5) = 4 ↔ m % 5 = 4 := (nI_inj2 (a := m % 5) (b := 4) (by omega) (by decide))
    have g2 : nI m = 0 ↔ m = 0 := (nI_inj2 (a := m) (b := 0) (by omega) (by decide))
    simp_all⟩
      · skip
        refine ep_iload (i := 4) dX9_brothersFault_63 rfl ?_
        refine ep_if_ne (tgt := 75) dX9_brothersFault_65 (by decide) (fun c6 => absurd c6 (by decide)) (fun c6 => ?_)
        refine ep_aload_n (i := 0) dX9_brothersFault_68 rfl rfl ?_
        refine ep_getI dX9_brothersFault_69 flX9_15 (by have := h.2.2.2.1; omega) h.1 ?_
        refine ep_topE (y := nI m) hm ?_
        refine ep_goto (tgt := 76) dX9_brothersFault_72 (by decide) ?_
        refine ep_iret dX9_brothersFault_76 rfl rfl ?_
        exact ⟨rfl, _, rfl, x, hx, by
    have g1 : nI (m % 5) = 4 ↔ m % 5 = 4 := (nI_inj2 (a := m % 5) (b := 4) (by omega) (by decide))
    have g2 : nI m = 0 ↔ m = 0 := (nI_inj2 (a := m) (b := 0) (by omega) (by decide))
    simp_all⟩
    · skip
      refine ep_iconst (v := 1) dX9_brothersFault_51 (by decide) ?_
      refine ep_goto (tgt := 56) dX9_brothersFault_52 (by decide) ?_
      refine ep_istore (l' := [(4, .int 1), (3, .int x), (2, .int (nI (5 * (7 - c)))), (0, .ref i), (1, .int (nI c))]) dX9_brothersFault_56 (by decide) rfl ?_
      refine ep_iload_n (i := 3) dX9_brothersFault_58 rfl rfl ?_
      refine ep_iconst (v := (-1)) dX9_brothersFault_59 (by decide) ?_
      refine ep_icmp_ne (tgt := 75) dX9_brothersFault_60 (by decide) (fun c7 => ?_) (fun c7 => ?_)
      · skip
        refine ep_iload_n (i := 3) dX9_brothersFault_75 rfl rfl ?_
        refine ep_iret dX9_brothersFault_76 rfl rfl ?_
        exact ⟨rfl, _, rfl, x, hx, by
    have g1 : nI (m % 5) = 4 ↔ m % 5 = 4 := (nI_inj2 (a := m % 5) (b := 4) (by omega) (by decide))
    have g2 : nI m = 0 ↔ m = 0 := (nI_inj2 (a := m) (b := 0) (by omega) (by decide))
    simp_all⟩
      · skip
        refine ep_iload (i := 4) dX9_brothersFault_63 rfl ?_
        refine ep_if_ne (tgt := 75) dX9_brothersFault_65 (by decide) (fun c8 => ?_) (fun c8 => absurd (by decide) c8)
        refine ep_iload_n (i := 3) dX9_brothersFault_75 rfl rfl ?_
        refine ep_iret dX9_brothersFault_76 rfl rfl ?_
        exact ⟨rfl, _, rfl, x, hx, by
    have g1 : nI (m % 5) = 4 ↔ m % 5 = 4 := (nI_inj2 (a := m % 5) (b := 4) (by omega) (by decide))
    have g2 : nI m = 0 ↔ m = 0 := (nI_inj2 (a := m) (b := 0) (by omega) (by decide))
    simp_all⟩
/-- which form an act has by its first sign -/
def z_fa (s : Int32) : Nat := if s = 110 then 5 else if s = 116 then 6 else if s = 109 then 7 else if s = 101 then 8 else if s = 112 then 9 else if s = 115 then 10 else 4
theorem q_X9_formOfAct {σ : eb_S} (d : Nat) (s : Int32) : eb_Q mX9_formOfAct d [.int s] σ (fun r τ => τ = σ ∧ r = some (.ref (1000000 + z_fa s))) := by
  refine ep_meth pn_X.2.2.2.2.2.2.2.2.2.1 (Nat.le_of_ble_eq_true rfl) ?_
  show eb_P _ d 0 [(0, .int s)] [] σ _
  refine ep_iload_n (i := 0) dX9_formOfAct_0 rfl rfl ?_
  by_cases hr : 101 ≤ s ∧ s ≤ 116
  · obtain ⟨k, hk, rfl⟩ := pk_of (x := s) (c := 117) (by decide) (by simp only [Int32.lt_iff_toInt_lt, Int32.le_iff_toInt_le] at *; have e : (101 : Int32).toInt = 101 := rfl; have e0 : (0 : Int32).toInt = 0 := rfl; omega) (by simp only [Int32.lt_iff_toInt_lt, Int32.le_iff_toInt_le] at *; have e : (116 : Int32).toInt = 116 := rfl; have e0 : (nI 117).toInt = 117 := rfl; omega)
    have hk1 : 101 ≤ k := (nI_leI (a := 101) (by decide) (by omega)).mp hr.1
    rcases (show k = 101 ∨ k = 102 ∨ k = 103 ∨ k = 104 ∨ k = 105 ∨ k = 106 ∨ k = 107 ∨ k = 108 ∨ k = 109 ∨ k = 110 ∨ k = 111 ∨ k = 112 ∨ k = 113 ∨ k = 114 ∨ k = 115 ∨ k = 116 by omega) with rfl | rfl | rfl | rfl | rfl | rfl | rfl | rfl | rfl | rfl | rfl | rfl | rfl | rfl | rfl | rfl
    · refine ep_tin (off := 88) (tgt := 89) dX9_formOfAct_1 (by decide) (by decide) (by decide) (by decide) ?_
      refine ep_ldcS (i := 8) (tx := "e9") dX9_formOfAct_89 (by decide) ?_
      exact ep_aret dX9_formOfAct_91 rfl (Or.inl ⟨_, rfl⟩) ⟨rfl, rfl⟩
    · refine ep_tin (off := 97) (tgt := 98) dX9_formOfAct_1 (by decide) (by decide) (by decide) (by decide) ?_
      refine ep_ldcS (i := 4) (tx := "") dX9_formOfAct_98 (by decide) ?_
      exact ep_aret dX9_formOfAct_100 rfl (Or.inl ⟨_, rfl⟩) ⟨rfl, rfl⟩
    · refine ep_tin (off := 97) (tgt := 98) dX9_formOfAct_1 (by decide) (by decide) (by decide) (by decide) ?_
      refine ep_ldcS (i := 4) (tx := "") dX9_formOfAct_98 (by decide) ?_
      exact ep_aret dX9_formOfAct_100 rfl (Or.inl ⟨_, rfl⟩) ⟨rfl, rfl⟩
    · refine ep_tin (off := 97) (tgt := 98) dX9_formOfAct_1 (by decide) (by decide) (by decide) (by decide) ?_
      refine ep_ldcS (i := 4) (tx := "") dX9_formOfAct_98 (by decide) ?_
      exact ep_aret dX9_formOfAct_100 rfl (Or.inl ⟨_, rfl⟩) ⟨rfl, rfl⟩
    · refine ep_tin (off := 97) (tgt := 98) dX9_formOfAct_1 (by decide) (by decide) (by decide) (by decide) ?_
      refine ep_ldcS (i := 4) (tx := "") dX9_formOfAct_98 (by decide) ?_
      exact ep_aret dX9_formOfAct_100 rfl (Or.inl ⟨_, rfl⟩) ⟨rfl, rfl⟩
    · refine ep_tin (off := 97) (tgt := 98) dX9_formOfAct_1 (by decide) (by decide) (by decide) (by decide) ?_
      refine ep_ldcS (i := 4) (tx := "") dX9_formOfAct_98 (by decide) ?_
      exact ep_aret dX9_formOfAct_100 rfl (Or.inl ⟨_, rfl⟩) ⟨rfl, rfl⟩
    · refine ep_tin (off := 97) (tgt := 98) dX9_formOfAct_1 (by decide) (by decide) (by decide) (by decide) ?_
      refine ep_ldcS (i := 4) (tx := "") dX9_formOfAct_98 (by decide) ?_
      exact ep_aret dX9_formOfAct_100 rfl (Or.inl ⟨_, rfl⟩) ⟨rfl, rfl⟩
    · refine ep_tin (off := 97) (tgt := 98) dX9_formOfAct_1 (by decide) (by decide) (by decide) (by decide) ?_
      refine ep_ldcS (i := 4) (tx := "") dX9_formOfAct_98 (by decide) ?_
      exact ep_aret dX9_formOfAct_100 rfl (Or.inl ⟨_, rfl⟩) ⟨rfl, rfl⟩
    · refine ep_tin (off := 85) (tgt := 86) dX9_formOfAct_1 (by decide) (by decide) (by decide) (by decide) ?_
      refine ep_ldcS (i := 7) (tx := "m9+5") dX9_formOfAct_86 (by decide) ?_
      exact ep_aret dX9_formOfAct_88 rfl (Or.inl ⟨_, rfl⟩) ⟨rfl, rfl⟩
    · refine ep_tin (off := 79) (tgt := 80) dX9_formOfAct_1 (by decide) (by decide) (by decide) (by decide) ?_
      refine ep_ldcS (i := 5) (tx := "n9") dX9_formOfAct_80 (by decide) ?_
      exact ep_aret dX9_formOfAct_82 rfl (Or.inl ⟨_, rfl⟩) ⟨rfl, rfl⟩
    · refine ep_tin (off := 97) (tgt := 98) dX9_formOfAct_1 (by decide) (by decide) (by decide) (by decide) ?_
      refine ep_ldcS (i := 4) (tx := "") dX9_formOfAct_98 (by decide) ?_
      exact ep_aret dX9_formOfAct_100 rfl (Or.inl ⟨_, rfl⟩) ⟨rfl, rfl⟩
    · refine ep_tin (off := 91) (tgt := 92) dX9_formOfAct_1 (by decide) (by decide) (by decide) (by decide) ?_
      refine ep_ldcS (i := 9) (tx := "p91") dX9_formOfAct_92 (by decide) ?_
      exact ep_aret dX9_formOfAct_94 rfl (Or.inl ⟨_, rfl⟩) ⟨rfl, rfl⟩
    · refine ep_tin (off := 97) (tgt := 98) dX9_formOfAct_1 (by decide) (by decide) (by decide) (by decide) ?_
      refine ep_ldcS (i := 4) (tx := "") dX9_formOfAct_98 (by decide) ?_
      exact ep_aret dX9_formOfAct_100 rfl (Or.inl ⟨_, rfl⟩) ⟨rfl, rfl⟩
    · refine ep_tin (off := 97) (tgt := 98) dX9_formOfAct_1 (by decide) (by decide) (by decide) (by decide) ?_
      refine ep_ldcS (i := 4) (tx := "") dX9_formOfAct_98 (by decide) ?_
      exact ep_aret dX9_formOfAct_100 rfl (Or.inl ⟨_, rfl⟩) ⟨rfl, rfl⟩
    · refine ep_tin (off := 94) (tgt := 95) dX9_formOfAct_1 (by decide) (by decide) (by decide) (by decide) ?_
      refine ep_ldcS (i := 10) (tx := "s9") dX9_formOfAct_95 (by decide) ?_
      exact ep_aret dX9_formOfAct_97 rfl (Or.inl ⟨_, rfl⟩) ⟨rfl, rfl⟩
    · refine ep_tin (off := 82) (tgt := 83) dX9_formOfAct_1 (by decide) (by decide) (by decide) (by decide) ?_
      refine ep_ldcS (i := 6) (tx := "t95") dX9_formOfAct_83 (by decide) ?_
      exact ep_aret dX9_formOfAct_85 rfl (Or.inl ⟨_, rfl⟩) ⟨rfl, rfl⟩
  · refine ep_tout (tgt := 98) dX9_formOfAct_1 (by simp only [Int32.le_iff_toInt_le] at hr; have e : (101 : Int32).toInt = 101 := rfl; have e2 : (116 : Int32).toInt = 116 := rfl; omega) (by decide) ?_
    refine ep_ldcS (i := 4) (tx := "") dX9_formOfAct_98 (by decide) ?_
    refine ep_aret dX9_formOfAct_100 rfl (Or.inl ⟨_, rfl⟩) ⟨rfl, ?_⟩
    have e : z_fa s = 4 := by
      unfold z_fa
      rw [if_neg (by rintro rfl; exact hr (by decide)), if_neg (by rintro rfl; exact hr (by decide)), if_neg (by rintro rfl; exact hr (by decide)), if_neg (by rintro rfl; exact hr (by decide)), if_neg (by rintro rfl; exact hr (by decide)), if_neg (by rintro rfl; exact hr (by decide))]
    rw [e]
theorem z_fa_ok (s : Int32) : z_fa s < 11 ∧ 1 ≤ z_fa s := by
  unfold z_fa
  (repeat' split) <;> decide
