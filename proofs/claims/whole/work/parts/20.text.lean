/-! Text: cells i, i + 1 -/
def eb_txt (n : Nat) (kd : Nat → Nat × Nat) (Rf : Nat → Nat → Option Nat) (i : Nat) : Prop := (kd i).1 = 9 ∧ kd (i + 1) = (20, 80) ∧ Rf i 0 = some (i + 1) ∧ i + 1 < n ∧ n < 1000000
/-- r is the first of the places below N that is bad, or -1 -/
def z_fst (bad : Nat → Prop) (N : Nat) (r : Int32) : Prop := (∃ p, p < N ∧ bad p ∧ (∀ q, q < p → ¬ bad q) ∧ r = nI p) ∨ ((∀ p, p < N → ¬ bad p) ∧ r = -1)
/-- a sign stands in a form -/
def z_st (c s : Int32) : Prop := (c = 57 ∧ 48 ≤ s ∧ s ≤ 57) ∨ (c = 53 ∧ 48 ≤ s ∧ s ≤ 53) ∨ (c = 49 ∧ 49 ≤ s ∧ s ≤ 57) ∨ (c = 43 ∧ (s = 43 ∨ s = 45)) ∨ (c ≠ 57 ∧ c ≠ 53 ∧ c ≠ 49 ∧ c ≠ 43 ∧ s = c)
theorem z_md {k m : Nat} (hm : 0 < m) : (k + 1) % m = if k % m + 1 < m then k % m + 1 else 0 := by
  have h1 := Nat.mod_lt k hm
  by_cases h : k % m + 1 < m
  · rw [if_pos h, Nat.add_mod, Nat.mod_eq_of_lt (show 1 < m by omega), Nat.mod_eq_of_lt h]
  · rw [if_neg h]
    have h2 : k % m + 1 = m := by omega
    have h3 := Nat.div_add_mod k m
    have h4 : k + 1 = m * (k / m + 1) := by rw [Nat.mul_add, Nat.mul_one]; omega
    rw [h4, Nat.mul_mod_right]
theorem q_X9_empty {n : Nat} {sl : Nat × Nat} {kd : Nat → Nat × Nat} {I : Nat → Nat → Int32} {L : Nat → Nat → Int64} {Rf : Nat → Nat → Option Nat} (d : Nat) {i : Nat} (h : eb_txt n kd Rf i)  : eb_Q mX9_empty d [.ref i] (n, sl, kd, I, L, Rf) (eb_v (n, sl, kd, z_set I i 1 0, L, Rf)) := by
  refine ep_meth pn_X.2.2.2.2.2.2.2.2.2.1 (Nat.le_of_ble_eq_true rfl) ?_
  show eb_P mX9_empty (d) 0 [(0, .ref i)] [] (n, sl, kd, I, L, Rf) _
  refine ep_aload_n (i := 0) dX9_empty_0 rfl rfl ?_
  refine ep_iconst (v := 0) dX9_empty_1 (by decide) ?_
  refine ep_pI dX9_empty_2 plX9_15 (by have := h.2.2.2.1; omega) (by have := h.2.2.2; omega) h.1 rfl rfl ?_
  refine ep_nmI (fun I1 hI1 => ?_)
  refine ep_vret dX9_empty_5 rfl ?_
  exact ⟨by simp_all, rfl⟩
theorem q_X9_cut_ok {n : Nat} {sl : Nat × Nat} {kd : Nat → Nat × Nat} {I : Nat → Nat → Int32} {L : Nat → Nat → Int64} {Rf : Nat → Nat → Option Nat} (d : Nat) {i : Nat} (h : eb_txt n kd Rf i) {x : Int32} (hx : 0 ≤ x ∧ x ≤ I i 1) : eb_Q mX9_cut d [.ref i, .int x] (n, sl, kd, I, L, Rf) (eb_r 1 (n, sl, kd, z_set I i 1 x, L, Rf)) := by
  refine ep_meth pn_X.2.2.2.2.2.2.2.2.2.1 (Nat.le_of_ble_eq_true rfl) ?_
  show eb_P mX9_cut (d) 0 [(0, .ref i), (1, .int x)] [] (n, sl, kd, I, L, Rf) _
  refine ep_iload_n (i := 1) dX9_cut_0 rfl rfl ?_
  refine ep_if_lt (tgt := 12) dX9_cut_1 (by decide) (fun c1 => absurd c1 (by simp only [Int32.lt_iff_toInt_lt, Int32.le_iff_toInt_le] at *; omega)) (fun c1 => ?_)
  refine ep_iload_n (i := 1) dX9_cut_4 rfl rfl ?_
  refine ep_aload_n (i := 0) dX9_cut_5 rfl rfl ?_
  refine ep_getI dX9_cut_6 flX9_15 (by have := h.2.2.2.1; omega) h.1 ?_
  refine ep_icmp_le (tgt := 14) dX9_cut_9 (by decide) (fun c2 => ?_) (fun c2 => absurd hx.2 c2)
  refine ep_aload_n (i := 0) dX9_cut_14 rfl rfl ?_
  refine ep_iload_n (i := 1) dX9_cut_15 rfl rfl ?_
  refine ep_pI dX9_cut_16 plX9_15 (by have := h.2.2.2.1; omega) (by have := h.2.2.2; omega) h.1 rfl rfl ?_
  refine ep_nmI (fun I3 hI3 => ?_)
  refine ep_iconst (v := 1) dX9_cut_19 (by decide) ?_
  refine ep_iret dX9_cut_20 rfl rfl ?_
  exact ⟨by simp_all, rfl⟩
theorem q_X9_cut_no {n : Nat} {sl : Nat × Nat} {kd : Nat → Nat × Nat} {I : Nat → Nat → Int32} {L : Nat → Nat → Int64} {Rf : Nat → Nat → Option Nat} (d : Nat) {i : Nat} (h : eb_txt n kd Rf i) {x : Int32} (hx : ¬ (0 ≤ x ∧ x ≤ I i 1)) : eb_Q mX9_cut d [.ref i, .int x] (n, sl, kd, I, L, Rf) (eb_r 0 (n, sl, kd, I, L, Rf)) := by
  refine ep_meth pn_X.2.2.2.2.2.2.2.2.2.1 (Nat.le_of_ble_eq_true rfl) ?_
  show eb_P mX9_cut (d) 0 [(0, .ref i), (1, .int x)] [] (n, sl, kd, I, L, Rf) _
  refine ep_iload_n (i := 1) dX9_cut_0 rfl rfl ?_
  refine ep_if_lt (tgt := 12) dX9_cut_1 (by decide) (fun c1 => ?_) (fun c1 => ?_)
  · skip
    refine ep_iconst (v := 0) dX9_cut_12 (by decide) ?_
    refine ep_iret dX9_cut_13 rfl rfl ?_
    exact ⟨rfl, rfl⟩
  · skip
    refine ep_iload_n (i := 1) dX9_cut_4 rfl rfl ?_
    refine ep_aload_n (i := 0) dX9_cut_5 rfl rfl ?_
    refine ep_getI dX9_cut_6 flX9_15 (by have := h.2.2.2.1; omega) h.1 ?_
    refine ep_icmp_le (tgt := 14) dX9_cut_9 (by decide) (fun c2 => ?_) (fun c2 => ?_)
    · skip
      refine ep_aload_n (i := 0) dX9_cut_14 rfl rfl ?_
      refine ep_iload_n (i := 1) dX9_cut_15 rfl rfl ?_
      refine ep_pI dX9_cut_16 plX9_15 (by have := h.2.2.2.1; omega) (by have := h.2.2.2; omega) h.1 rfl rfl ?_
      refine ep_nmI (fun I3 hI3 => ?_)
      refine ep_iconst (v := 1) dX9_cut_19 (by decide) ?_
      refine ep_iret dX9_cut_20 rfl rfl ?_
      exact absurd (by simp only [Int32.lt_iff_toInt_lt, Int32.le_iff_toInt_le] at *; omega) hx
    · skip
      refine ep_iconst (v := 0) dX9_cut_12 (by decide) ?_
      refine ep_iret dX9_cut_13 rfl rfl ?_
      exact ⟨rfl, rfl⟩
theorem q_X9_at_in {n : Nat} {sl : Nat × Nat} {kd : Nat → Nat × Nat} {I : Nat → Nat → Int32} {L : Nat → Nat → Int64} {Rf : Nat → Nat → Option Nat} (d : Nat) {i : Nat} (h : eb_txt n kd Rf i) {m : Nat} (hm : I i 1 = nI m) (hm8 : m ≤ 80) {k : Nat} (hk : k < m) : eb_Q mX9_at d [.ref i, .int (nI k)] (n, sl, kd, I, L, Rf) (eb_r (I (i + 1) k) (n, sl, kd, I, L, Rf)) := by
  refine ep_meth pn_X.2.2.2.2.2.2.2.2.2.1 (Nat.le_of_ble_eq_true rfl) ?_
  show eb_P mX9_at (d) 0 [(0, .ref i), (1, .int (nI k))] [] (n, sl, kd, I, L, Rf) _
  refine ep_iload_n (i := 1) dX9_at_0 rfl rfl ?_
  refine ep_if_lt (tgt := 21) dX9_at_1 (by decide) (fun c1 => absurd c1 (nI_pos (by omega))) (fun c1 => ?_)
  refine ep_iload_n (i := 1) dX9_at_4 rfl rfl ?_
  refine ep_aload_n (i := 0) dX9_at_5 rfl rfl ?_
  refine ep_getI dX9_at_6 flX9_15 (by have := h.2.2.2.1; omega) h.1 ?_
  refine ep_icmp_ge (tgt := 21) dX9_at_9 (by decide) (fun c2 => absurd c2 (by rw [hm]; exact nI_ge hk (by omega))) (fun c2 => ?_)
  refine ep_aload_n (i := 0) dX9_at_12 rfl rfl ?_
  refine ep_getR dX9_at_13 flX9_9 (by have := h.2.2.2.1; omega) h.1 h.2.2.1 ?_
  refine ep_iload_n (i := 1) dX9_at_16 rfl rfl ?_
  refine ep_iaN dX9_at_17 h.2.2.2.1 h.2.1 (by omega) (by decide) ?_
  refine ep_goto (tgt := 22) dX9_at_18 (by decide) ?_
  refine ep_iret dX9_at_22 rfl rfl ?_
  exact ⟨rfl, rfl⟩
theorem q_X9_at_out {n : Nat} {sl : Nat × Nat} {kd : Nat → Nat × Nat} {I : Nat → Nat → Int32} {L : Nat → Nat → Int64} {Rf : Nat → Nat → Option Nat} (d : Nat) {i : Nat} (h : eb_txt n kd Rf i) {m : Nat} (hm : I i 1 = nI m) (hm8 : m ≤ 80) {k : Nat} (hk : m ≤ k) (hk2 : k < 2147483648) : eb_Q mX9_at d [.ref i, .int (nI k)] (n, sl, kd, I, L, Rf) (eb_r (-1) (n, sl, kd, I, L, Rf)) := by
  refine ep_meth pn_X.2.2.2.2.2.2.2.2.2.1 (Nat.le_of_ble_eq_true rfl) ?_
  show eb_P mX9_at (d) 0 [(0, .ref i), (1, .int (nI k))] [] (n, sl, kd, I, L, Rf) _
  refine ep_iload_n (i := 1) dX9_at_0 rfl rfl ?_
  refine ep_if_lt (tgt := 21) dX9_at_1 (by decide) (fun c1 => absurd c1 (nI_pos (by omega))) (fun c1 => ?_)
  refine ep_iload_n (i := 1) dX9_at_4 rfl rfl ?_
  refine ep_aload_n (i := 0) dX9_at_5 rfl rfl ?_
  refine ep_getI dX9_at_6 flX9_15 (by have := h.2.2.2.1; omega) h.1 ?_
  refine ep_icmp_ge (tgt := 21) dX9_at_9 (by decide) (fun c2 => ?_) (fun c2 => absurd (by rw [hm]; exact nI_le hk (by omega)) c2)
  refine ep_iconst (v := (-1)) dX9_at_21 (by decide) ?_
  refine ep_iret dX9_at_22 rfl rfl ?_
  exact ⟨rfl, rfl⟩
theorem q_X9_digit {n : Nat} {sl : Nat × Nat} {kd : Nat → Nat × Nat} {I : Nat → Nat → Int32} {L : Nat → Nat → Int64} {Rf : Nat → Nat → Option Nat} (d : Nat) {i : Nat} (h : eb_txt n kd Rf i) {m : Nat} (hm : I i 1 = nI m) (hm8 : m ≤ 80) {k : Nat} (hk : k < m) : eb_Q mX9_digit (d + 1) [.ref i, .int (nI k)] (n, sl, kd, I, L, Rf) (eb_r (I (i + 1) k - 48) (n, sl, kd, I, L, Rf)) := by
  refine ep_meth pn_X.2.2.2.2.2.2.2.2.2.1 (Nat.le_of_ble_eq_true rfl) ?_
  show eb_P mX9_digit (d + 1) 0 [(0, .ref i), (1, .int (nI k))] [] (n, sl, kd, I, L, Rf) _
  refine ep_aload_n (i := 0) dX9_digit_0 rfl rfl ?_
  refine ep_iload_n (i := 1) dX9_digit_1 rfl rfl ?_
  refine ep_callV (M1 := mX9_at) (rest := []) dX9_digit_2 mlX9_19 mvX9_at rfl (by have := h.2.2.2.1; omega) h.1 (Nat.le_of_ble_eq_true rfl) rfl (q_X9_at_in d h hm hm8 hk) eb_rok ?_
  rintro _ _ ⟨rfl, rfl⟩
  show eb_P _ _ 5 [(0, .ref i), (1, .int (nI k))] (.int (I (i + 1) k) :: []) _ _
  refine ep_bipush (v := 48) dX9_digit_5 (by decide) ?_
  refine ep_isub dX9_digit_7 ?_
  refine ep_iret dX9_digit_8 rfl rfl ?_
  exact ⟨rfl, rfl⟩
/-- a sign and a digit -/
def z_sg (t : Nat → Int32) (k : Nat) : Int32 := if t k = 45 then -(t (k + 1) - 48) else t (k + 1) - 48
theorem q_X9_signed {n : Nat} {sl : Nat × Nat} {kd : Nat → Nat × Nat} {I : Nat → Nat → Int32} {L : Nat → Nat → Int64} {Rf : Nat → Nat → Option Nat} (d : Nat) {i : Nat} (h : eb_txt n kd Rf i) {m : Nat} (hm : I i 1 = nI m) (hm8 : m ≤ 80) {k : Nat} (hk : k + 1 < m) : eb_Q mX9_signed (d + 2) [.ref i, .int (nI k)] (n, sl, kd, I, L, Rf) (eb_r (z_sg (I (i + 1)) k) (n, sl, kd, I, L, Rf)) := by
  refine ep_meth pn_X.2.2.2.2.2.2.2.2.2.1 (Nat.le_of_ble_eq_true rfl) ?_
  show eb_P mX9_signed (d + 2) 0 [(0, .ref i), (1, .int (nI k))] [] (n, sl, kd, I, L, Rf) _
  refine ep_aload_n (i := 0) dX9_signed_0 rfl rfl ?_
  refine ep_iload_n (i := 1) dX9_signed_1 rfl rfl ?_
  refine ep_callV (M1 := mX9_at) (rest := []) dX9_signed_2 mlX9_19 mvX9_at rfl (by have := h.2.2.2.1; omega) h.1 (Nat.le_of_ble_eq_true rfl) rfl (q_X9_at_in (d + 1) h hm hm8 (by omega)) eb_rok ?_
  rintro _ _ ⟨rfl, rfl⟩
  show eb_P _ _ 5 [(0, .ref i), (1, .int (nI k))] (.int (I (i + 1) k) :: []) _ _
  refine ep_bipush (v := 45) dX9_signed_5 (by decide) ?_
  refine ep_icmp_ne (tgt := 21) dX9_signed_7 (by decide) (fun c1 => ?_) (fun c1 => ?_)
  · skip
    refine ep_aload_n (i := 0) dX9_signed_21 rfl rfl ?_
    refine ep_iload_n (i := 1) dX9_signed_22 rfl rfl ?_
    refine ep_iconst (v := 1) dX9_signed_23 (by decide) ?_
    refine ep_iadd dX9_signed_24 ?_
    refine ep_topE (y := nI (k + 1)) (nI_1 _) ?_
    refine ep_callV (M1 := mX9_digit) (rest := []) dX9_signed_25 mlX9_23 mvX9_digit rfl (by have := h.2.2.2.1; omega) h.1 (Nat.le_of_ble_eq_true rfl) rfl (q_X9_digit d h hm hm8 hk) eb_rok ?_
    rintro _ _ ⟨rfl, rfl⟩
    show eb_P _ _ 28 [(0, .ref i), (1, .int (nI k))] (.int (I (i + 1) (k + 1) - 48) :: []) _ _
    refine ep_iret dX9_signed_28 rfl rfl ?_
    exact ⟨rfl, by simp_all [z_sg]⟩
  · skip
    refine ep_aload_n (i := 0) dX9_signed_10 rfl rfl ?_
    refine ep_iload_n (i := 1) dX9_signed_11 rfl rfl ?_
    refine ep_iconst (v := 1) dX9_signed_12 (by decide) ?_
    refine ep_iadd dX9_signed_13 ?_
    refine ep_topE (y := nI (k + 1)) (nI_1 _) ?_
    refine ep_callV (M1 := mX9_digit) (rest := []) dX9_signed_14 mlX9_23 mvX9_digit rfl (by have := h.2.2.2.1; omega) h.1 (Nat.le_of_ble_eq_true rfl) rfl (q_X9_digit d h hm hm8 hk) eb_rok ?_
    rintro _ _ ⟨rfl, rfl⟩
    show eb_P _ _ 17 [(0, .ref i), (1, .int (nI k))] (.int (I (i + 1) (k + 1) - 48) :: []) _ _
    refine ep_ineg dX9_signed_17 ?_
    refine ep_goto (tgt := 28) dX9_signed_18 (by decide) ?_
    refine ep_iret dX9_signed_28 rfl rfl ?_
    exact ⟨rfl, by simp_all [z_sg]⟩
theorem q_X9_takeFour_ok {n : Nat} {sl : Nat × Nat} {kd : Nat → Nat × Nat} {I : Nat → Nat → Int32} {L : Nat → Nat → Int64} {Rf : Nat → Nat → Option Nat} (d : Nat) {i : Nat} (h : eb_txt n kd Rf i) {m : Nat} (hm : I i 1 = nI m) (hm8 : m + 4 ≤ 80) (v : Int32) : eb_Q mX9_takeFour d [.ref i, .int v] (n, sl, kd, I, L, Rf) (fun r τ => r = some (.int 1) ∧ ∃ I1, τ = (n, sl, kd, I1, L, Rf) ∧ I1 i 1 = nI (m + 4) ∧ (∀ k, k < m → I1 (i + 1) k = I (i + 1) k) ∧ (∀ j, j < 4 → I1 (i + 1) (m + j) = v >>> (nI (24 - 8 * j) &&& 31) &&& 255) ∧ ∀ a, a ≠ i → a ≠ i + 1 → I1 a = I a) := by
  refine ep_meth pn_X.2.2.2.2.2.2.2.2.2.1 (Nat.le_of_ble_eq_true rfl) ?_
  show eb_P mX9_takeFour (d) 0 [(0, .ref i), (1, .int v)] [] (n, sl, kd, I, L, Rf) _
  refine ep_aload_n (i := 0) dX9_takeFour_0 rfl rfl ?_
  refine ep_getI dX9_takeFour_1 flX9_15 (by have := h.2.2.2.1; omega) h.1 ?_
  refine ep_topE (y := nI m) hm ?_
  refine ep_iconst (v := 4) dX9_takeFour_4 (by decide) ?_
  refine ep_iadd dX9_takeFour_5 ?_
  refine ep_aload_n (i := 0) dX9_takeFour_6 rfl rfl ?_
  refine ep_getR dX9_takeFour_7 flX9_9 (by have := h.2.2.2.1; omega) h.1 h.2.2.1 ?_
  refine ep_alen (v := 80) dX9_takeFour_10 h.2.2.2.1 h.2.1 (by decide) (by decide) ?_
  refine ep_icmp_le (tgt := 16) dX9_takeFour_11 (by decide) (fun c1 => ?_) (fun c1 => absurd (by rw [show nI m + 4 = nI (m + 4) from nI_add m 4]; exact nI_le hm8 (by decide)) c1)
  refine ep_bipush (v := 24) dX9_takeFour_16 (by decide) ?_
  refine ep_istore_n (l' := [(2, .int 24), (0, .ref i), (1, .int v)]) dX9_takeFour_18 rfl (by decide) rfl ?_
  refine ep_iload_n (i := 2) dX9_takeFour_19 rfl rfl ?_
  refine ep_if_lt (tgt := 55) dX9_takeFour_20 (by decide) (fun c2 => absurd c2 (by decide)) (fun c2 => ?_)
  refine ep_aload_n (i := 0) dX9_takeFour_23 rfl rfl ?_
  refine ep_getR dX9_takeFour_24 flX9_9 (by have := h.2.2.2.1; omega) h.1 h.2.2.1 ?_
  refine ep_aload_n (i := 0) dX9_takeFour_27 rfl rfl ?_
  refine ep_getI dX9_takeFour_28 flX9_15 (by have := h.2.2.2.1; omega) h.1 ?_
  refine ep_topE (y := nI m) hm ?_
  refine ep_iload_n (i := 1) dX9_takeFour_31 rfl rfl ?_
  refine ep_iload_n (i := 2) dX9_takeFour_32 rfl rfl ?_
  refine ep_ishr dX9_takeFour_33 ?_
  refine ep_sipush (v := 255) dX9_takeFour_34 (by decide) ?_
  refine ep_iand dX9_takeFour_37 ?_
  refine ep_isN dX9_takeFour_38 h.2.2.2.1 (by have := h.2.2.2; omega) h.2.1 (by omega) (by decide) ?_
  refine ep_nmI (fun I3 hI3 => ?_)
  refine ep_aload_n (i := 0) dX9_takeFour_39 rfl rfl ?_
  refine ep_dup dX9_takeFour_40 rfl ?_
  refine ep_getI dX9_takeFour_41 flX9_15 (by have := h.2.2.2.1; omega) h.1 ?_
  refine ep_topE (y := nI m) (by simp_all [z_set]) ?_
  refine ep_iconst (v := 1) dX9_takeFour_44 (by decide) ?_
  refine ep_iadd dX9_takeFour_45 ?_
  refine ep_topE (y := nI (m + 1)) (nI_1 _) ?_
  refine ep_pI dX9_takeFour_46 plX9_15 (by have := h.2.2.2.1; omega) (by have := h.2.2.2; omega) h.1 rfl rfl ?_
  refine ep_nmI (fun I4 hI4 => ?_)
  refine ep_iinc (v := 16) (l' := [(2, .int 16), (0, .ref i), (1, .int v)]) dX9_takeFour_49 rfl (by decide) (by decide) rfl ?_
  refine ep_goto (tgt := 19) dX9_takeFour_52 (by decide) ?_
  refine ep_iload_n (i := 2) dX9_takeFour_19 rfl rfl ?_
  refine ep_if_lt (tgt := 55) dX9_takeFour_20 (by decide) (fun c5 => absurd c5 (by decide)) (fun c5 => ?_)
  refine ep_aload_n (i := 0) dX9_takeFour_23 rfl rfl ?_
  refine ep_getR dX9_takeFour_24 flX9_9 (by have := h.2.2.2.1; omega) h.1 h.2.2.1 ?_
  refine ep_aload_n (i := 0) dX9_takeFour_27 rfl rfl ?_
  refine ep_getI dX9_takeFour_28 flX9_15 (by have := h.2.2.2.1; omega) h.1 ?_
  refine ep_topE (y := nI (m + 1)) (by simp_all [z_set]) ?_
  refine ep_iload_n (i := 1) dX9_takeFour_31 rfl rfl ?_
  refine ep_iload_n (i := 2) dX9_takeFour_32 rfl rfl ?_
  refine ep_ishr dX9_takeFour_33 ?_
  refine ep_sipush (v := 255) dX9_takeFour_34 (by decide) ?_
  refine ep_iand dX9_takeFour_37 ?_
  refine ep_isN dX9_takeFour_38 h.2.2.2.1 (by have := h.2.2.2; omega) h.2.1 (by omega) (by decide) ?_
  refine ep_nmI (fun I6 hI6 => ?_)
  refine ep_aload_n (i := 0) dX9_takeFour_39 rfl rfl ?_
  refine ep_dup dX9_takeFour_40 rfl ?_
  refine ep_getI dX9_takeFour_41 flX9_15 (by have := h.2.2.2.1; omega) h.1 ?_
  refine ep_topE (y := nI (m + 1)) (by simp_all [z_set]) ?_
  refine ep_iconst (v := 1) dX9_takeFour_44 (by decide) ?_
  refine ep_iadd dX9_takeFour_45 ?_
  refine ep_topE (y := nI (m + 1 + 1)) (nI_1 _) ?_
  refine ep_pI dX9_takeFour_46 plX9_15 (by have := h.2.2.2.1; omega) (by have := h.2.2.2; omega) h.1 rfl rfl ?_
  refine ep_nmI (fun I7 hI7 => ?_)
  refine ep_iinc (v := 8) (l' := [(2, .int 8), (0, .ref i), (1, .int v)]) dX9_takeFour_49 rfl (by decide) (by decide) rfl ?_
  refine ep_goto (tgt := 19) dX9_takeFour_52 (by decide) ?_
  refine ep_iload_n (i := 2) dX9_takeFour_19 rfl rfl ?_
  refine ep_if_lt (tgt := 55) dX9_takeFour_20 (by decide) (fun c8 => absurd c8 (by decide)) (fun c8 => ?_)
  refine ep_aload_n (i := 0) dX9_takeFour_23 rfl rfl ?_
  refine ep_getR dX9_takeFour_24 flX9_9 (by have := h.2.2.2.1; omega) h.1 h.2.2.1 ?_
  refine ep_aload_n (i := 0) dX9_takeFour_27 rfl rfl ?_
  refine ep_getI dX9_takeFour_28 flX9_15 (by have := h.2.2.2.1; omega) h.1 ?_
  refine ep_topE (y := nI (m + 2)) (by simp_all [z_set]) ?_
  refine ep_iload_n (i := 1) dX9_takeFour_31 rfl rfl ?_
  refine ep_iload_n (i := 2) dX9_takeFour_32 rfl rfl ?_
  refine ep_ishr dX9_takeFour_33 ?_
  refine ep_sipush (v := 255) dX9_takeFour_34 (by decide) ?_
  refine ep_iand dX9_takeFour_37 ?_
  refine ep_isN dX9_takeFour_38 h.2.2.2.1 (by have := h.2.2.2; omega) h.2.1 (by omega) (by decide) ?_
  refine ep_nmI (fun I9 hI9 => ?_)
  refine ep_aload_n (i := 0) dX9_takeFour_39 rfl rfl ?_
  refine ep_dup dX9_takeFour_40 rfl ?_
  refine ep_getI dX9_takeFour_41 flX9_15 (by have := h.2.2.2.1; omega) h.1 ?_
  refine ep_topE (y := nI (m + 2)) (by simp_all [z_set]) ?_
  refine ep_iconst (v := 1) dX9_takeFour_44 (by decide) ?_
  refine ep_iadd dX9_takeFour_45 ?_
  refine ep_topE (y := nI (m + 2 + 1)) (nI_1 _) ?_
  refine ep_pI dX9_takeFour_46 plX9_15 (by have := h.2.2.2.1; omega) (by have := h.2.2.2; omega) h.1 rfl rfl ?_
  refine ep_nmI (fun I10 hI10 => ?_)
  refine ep_iinc (v := 0) (l' := [(2, .int 0), (0, .ref i), (1, .int v)]) dX9_takeFour_49 rfl (by decide) (by decide) rfl ?_
  refine ep_goto (tgt := 19) dX9_takeFour_52 (by decide) ?_
  refine ep_iload_n (i := 2) dX9_takeFour_19 rfl rfl ?_
  refine ep_if_lt (tgt := 55) dX9_takeFour_20 (by decide) (fun c11 => absurd c11 (by decide)) (fun c11 => ?_)
  refine ep_aload_n (i := 0) dX9_takeFour_23 rfl rfl ?_
  refine ep_getR dX9_takeFour_24 flX9_9 (by have := h.2.2.2.1; omega) h.1 h.2.2.1 ?_
  refine ep_aload_n (i := 0) dX9_takeFour_27 rfl rfl ?_
  refine ep_getI dX9_takeFour_28 flX9_15 (by have := h.2.2.2.1; omega) h.1 ?_
  refine ep_topE (y := nI (m + 3)) (by simp_all [z_set]) ?_
  refine ep_iload_n (i := 1) dX9_takeFour_31 rfl rfl ?_
  refine ep_iload_n (i := 2) dX9_takeFour_32 rfl rfl ?_
  refine ep_ishr dX9_takeFour_33 ?_
  refine ep_sipush (v := 255) dX9_takeFour_34 (by decide) ?_
  refine ep_iand dX9_takeFour_37 ?_
  refine ep_isN dX9_takeFour_38 h.2.2.2.1 (by have := h.2.2.2; omega) h.2.1 (by omega) (by decide) ?_
  refine ep_nmI (fun I12 hI12 => ?_)
  refine ep_aload_n (i := 0) dX9_takeFour_39 rfl rfl ?_
  refine ep_dup dX9_takeFour_40 rfl ?_
  refine ep_getI dX9_takeFour_41 flX9_15 (by have := h.2.2.2.1; omega) h.1 ?_
  refine ep_topE (y := nI (m + 3)) (by simp_all [z_set]) ?_
  refine ep_iconst (v := 1) dX9_takeFour_44 (by decide) ?_
  refine ep_iadd dX9_takeFour_45 ?_
  refine ep_topE (y := nI (m + 3 + 1)) (nI_1 _) ?_
  refine ep_pI dX9_takeFour_46 plX9_15 (by have := h.2.2.2.1; omega) (by have := h.2.2.2; omega) h.1 rfl rfl ?_
  refine ep_nmI (fun I13 hI13 => ?_)
  refine ep_iinc (v := (-8)) (l' := [(2, .int ((-8))), (0, .ref i), (1, .int v)]) dX9_takeFour_49 rfl (by decide) (by decide) rfl ?_
  refine ep_goto (tgt := 19) dX9_takeFour_52 (by decide) ?_
  refine ep_iload_n (i := 2) dX9_takeFour_19 rfl rfl ?_
  refine ep_if_lt (tgt := 55) dX9_takeFour_20 (by decide) (fun c14 => ?_) (fun c14 => absurd (by decide) c14)
  refine ep_iconst (v := 1) dX9_takeFour_55 (by decide) ?_
  refine ep_iret dX9_takeFour_56 rfl rfl ?_
  refine ⟨rfl, _, rfl, ?_, ?_, ?_, ?_⟩
  · simp_all [z_set]
  · intro k hk; have e1 : ¬ k = m := (by omega); have e2 : ¬ k = m + 1 := (by omega); have e3 : ¬ k = m + 2 := (by omega); have e4 : ¬ k = m + 3 := (by omega); simp_all [z_set]
  · intro j hj; rcases (show j = 0 ∨ j = 1 ∨ j = 2 ∨ j = 3 by omega) with rfl | rfl | rfl | rfl <;> simp_all [z_set] <;> first | rfl | simp [nI_0]
  · intro a h1 h2; funext q; simp_all [z_set]
theorem q_X9_stands_57 {σ : eb_S} (d : Nat) (x : Int32) : eb_Q mX9_stands (d + 1) [.int 57, .int x] σ (eb_b (z_st 57 x) σ) := by
  refine ep_meth pn_X.2.2.2.2.2.2.2.2.2.1 (Nat.le_of_ble_eq_true rfl) ?_
  show eb_P mX9_stands (d + 1) 0 [(0, .int 57), (1, .int x)] [] σ _
  refine ep_iload_n (i := 0) dX9_stands_0 rfl rfl ?_
  refine ep_lookup (off := 43) (tgt := 44) dX9_stands_1 (by decide) (by decide) (by decide) ?_
  refine ep_iload_n (i := 1) dX9_stands_44 rfl rfl ?_
  refine ep_bipush (v := 48) dX9_stands_45 (by decide) ?_
  refine ep_bipush (v := 57) dX9_stands_47 (by decide) ?_
  refine ep_callS (M1 := mX10_within) (rest := []) dX9_stands_49 mlX9_74 msX10_within rfl (Nat.le_of_ble_eq_true rfl) rfl (q_X10_within d x 48 57 _) eb_bok ?_
  rintro _ _ ⟨rfl, ⟨b1, rfl⟩ | ⟨b1, rfl⟩⟩
  · show eb_P _ _ 52 [(0, .int 57), (1, .int x)] (.int 1 :: []) _ _
    refine ep_iret dX9_stands_52 rfl rfl ?_
    exact ⟨rfl, Or.inl ⟨by simp_all [z_st], rfl⟩⟩
  · show eb_P _ _ 52 [(0, .int 57), (1, .int x)] (.int 0 :: []) _ _
    refine ep_iret dX9_stands_52 rfl rfl ?_
    exact ⟨rfl, Or.inr ⟨by simp_all [z_st], rfl⟩⟩
theorem q_X9_stands_53 {σ : eb_S} (d : Nat) (x : Int32) : eb_Q mX9_stands (d + 1) [.int 53, .int x] σ (eb_b (z_st 53 x) σ) := by
  refine ep_meth pn_X.2.2.2.2.2.2.2.2.2.1 (Nat.le_of_ble_eq_true rfl) ?_
  show eb_P mX9_stands (d + 1) 0 [(0, .int 53), (1, .int x)] [] σ _
  refine ep_iload_n (i := 0) dX9_stands_0 rfl rfl ?_
  refine ep_lookup (off := 52) (tgt := 53) dX9_stands_1 (by decide) (by decide) (by decide) ?_
  refine ep_iload_n (i := 1) dX9_stands_53 rfl rfl ?_
  refine ep_bipush (v := 48) dX9_stands_54 (by decide) ?_
  refine ep_bipush (v := 53) dX9_stands_56 (by decide) ?_
  refine ep_callS (M1 := mX10_within) (rest := []) dX9_stands_58 mlX9_74 msX10_within rfl (Nat.le_of_ble_eq_true rfl) rfl (q_X10_within d x 48 53 _) eb_bok ?_
  rintro _ _ ⟨rfl, ⟨b1, rfl⟩ | ⟨b1, rfl⟩⟩
  · show eb_P _ _ 61 [(0, .int 53), (1, .int x)] (.int 1 :: []) _ _
    refine ep_iret dX9_stands_61 rfl rfl ?_
    exact ⟨rfl, Or.inl ⟨by simp_all [z_st], rfl⟩⟩
  · show eb_P _ _ 61 [(0, .int 53), (1, .int x)] (.int 0 :: []) _ _
    refine ep_iret dX9_stands_61 rfl rfl ?_
    exact ⟨rfl, Or.inr ⟨by simp_all [z_st], rfl⟩⟩
theorem q_X9_stands_49 {σ : eb_S} (d : Nat) (x : Int32) : eb_Q mX9_stands (d + 1) [.int 49, .int x] σ (eb_b (z_st 49 x) σ) := by
  refine ep_meth pn_X.2.2.2.2.2.2.2.2.2.1 (Nat.le_of_ble_eq_true rfl) ?_
  show eb_P mX9_stands (d + 1) 0 [(0, .int 49), (1, .int x)] [] σ _
  refine ep_iload_n (i := 0) dX9_stands_0 rfl rfl ?_
  refine ep_lookup (off := 61) (tgt := 62) dX9_stands_1 (by decide) (by decide) (by decide) ?_
  refine ep_iload_n (i := 1) dX9_stands_62 rfl rfl ?_
  refine ep_bipush (v := 49) dX9_stands_63 (by decide) ?_
  refine ep_bipush (v := 57) dX9_stands_65 (by decide) ?_
  refine ep_callS (M1 := mX10_within) (rest := []) dX9_stands_67 mlX9_74 msX10_within rfl (Nat.le_of_ble_eq_true rfl) rfl (q_X10_within d x 49 57 _) eb_bok ?_
  rintro _ _ ⟨rfl, ⟨b1, rfl⟩ | ⟨b1, rfl⟩⟩
  · show eb_P _ _ 70 [(0, .int 49), (1, .int x)] (.int 1 :: []) _ _
    refine ep_iret dX9_stands_70 rfl rfl ?_
    exact ⟨rfl, Or.inl ⟨by simp_all [z_st], rfl⟩⟩
  · show eb_P _ _ 70 [(0, .int 49), (1, .int x)] (.int 0 :: []) _ _
    refine ep_iret dX9_stands_70 rfl rfl ?_
    exact ⟨rfl, Or.inr ⟨by simp_all [z_st], rfl⟩⟩
theorem q_X9_stands_43 {σ : eb_S} (d : Nat) (x : Int32) : eb_Q mX9_stands (d + 1) [.int 43, .int x] σ (eb_b (z_st 43 x) σ) := by
  refine ep_meth pn_X.2.2.2.2.2.2.2.2.2.1 (Nat.le_of_ble_eq_true rfl) ?_
  show eb_P mX9_stands (d + 1) 0 [(0, .int 43), (1, .int x)] [] σ _
  refine ep_iload_n (i := 0) dX9_stands_0 rfl rfl ?_
  refine ep_lookup (off := 70) (tgt := 71) dX9_stands_1 (by decide) (by decide) (by decide) ?_
  refine ep_iload_n (i := 1) dX9_stands_71 rfl rfl ?_
  refine ep_bipush (v := 43) dX9_stands_72 (by decide) ?_
  refine ep_icmp_eq (tgt := 83) dX9_stands_74 (by decide) (fun c1 => ?_) (fun c1 => ?_)
  · skip
    refine ep_iconst (v := 1) dX9_stands_83 (by decide) ?_
    refine ep_goto (tgt := 88) dX9_stands_84 (by decide) ?_
    refine ep_iret dX9_stands_88 rfl rfl ?_
    exact ⟨rfl, Or.inl ⟨by simp_all [z_st], rfl⟩⟩
  · skip
    refine ep_iload_n (i := 1) dX9_stands_77 rfl rfl ?_
    refine ep_bipush (v := 45) dX9_stands_78 (by decide) ?_
    refine ep_icmp_ne (tgt := 87) dX9_stands_80 (by decide) (fun c2 => ?_) (fun c2 => ?_)
    · skip
      refine ep_iconst (v := 0) dX9_stands_87 (by decide) ?_
      refine ep_iret dX9_stands_88 rfl rfl ?_
      exact ⟨rfl, Or.inr ⟨by simp_all [z_st], rfl⟩⟩
    · skip
      refine ep_iconst (v := 1) dX9_stands_83 (by decide) ?_
      refine ep_goto (tgt := 88) dX9_stands_84 (by decide) ?_
      refine ep_iret dX9_stands_88 rfl rfl ?_
      exact ⟨rfl, Or.inl ⟨by simp_all [z_st], rfl⟩⟩
theorem q_X9_stands_59 {σ : eb_S} (d : Nat) (x : Int32) : eb_Q mX9_stands (d + 1) [.int 59, .int x] σ (eb_b (z_st 59 x) σ) := by
  refine ep_meth pn_X.2.2.2.2.2.2.2.2.2.1 (Nat.le_of_ble_eq_true rfl) ?_
  show eb_P mX9_stands (d + 1) 0 [(0, .int 59), (1, .int x)] [] σ _
  refine ep_iload_n (i := 0) dX9_stands_0 rfl rfl ?_
  refine ep_lookup (off := 88) (tgt := 89) dX9_stands_1 (by decide) (by decide) (by decide) ?_
  refine ep_iload_n (i := 1) dX9_stands_89 rfl rfl ?_
  refine ep_iload_n (i := 0) dX9_stands_90 rfl rfl ?_
  refine ep_icmp_ne (tgt := 98) dX9_stands_91 (by decide) (fun c1 => ?_) (fun c1 => ?_)
  · skip
    refine ep_iconst (v := 0) dX9_stands_98 (by decide) ?_
    refine ep_iret dX9_stands_99 rfl rfl ?_
    exact ⟨rfl, Or.inr ⟨by simp_all [z_st], rfl⟩⟩
  · skip
    refine ep_iconst (v := 1) dX9_stands_94 (by decide) ?_
    refine ep_goto (tgt := 99) dX9_stands_95 (by decide) ?_
    refine ep_iret dX9_stands_99 rfl rfl ?_
    exact ⟨rfl, Or.inl ⟨by simp_all [z_st], rfl⟩⟩
theorem q_X9_stands_110 {σ : eb_S} (d : Nat) (x : Int32) : eb_Q mX9_stands (d + 1) [.int 110, .int x] σ (eb_b (z_st 110 x) σ) := by
  refine ep_meth pn_X.2.2.2.2.2.2.2.2.2.1 (Nat.le_of_ble_eq_true rfl) ?_
  show eb_P mX9_stands (d + 1) 0 [(0, .int 110), (1, .int x)] [] σ _
  refine ep_iload_n (i := 0) dX9_stands_0 rfl rfl ?_
  refine ep_lookup (off := 88) (tgt := 89) dX9_stands_1 (by decide) (by decide) (by decide) ?_
  refine ep_iload_n (i := 1) dX9_stands_89 rfl rfl ?_
  refine ep_iload_n (i := 0) dX9_stands_90 rfl rfl ?_
  refine ep_icmp_ne (tgt := 98) dX9_stands_91 (by decide) (fun c1 => ?_) (fun c1 => ?_)
  · skip
    refine ep_iconst (v := 0) dX9_stands_98 (by decide) ?_
    refine ep_iret dX9_stands_99 rfl rfl ?_
    exact ⟨rfl, Or.inr ⟨by simp_all [z_st], rfl⟩⟩
  · skip
    refine ep_iconst (v := 1) dX9_stands_94 (by decide) ?_
    refine ep_goto (tgt := 99) dX9_stands_95 (by decide) ?_
    refine ep_iret dX9_stands_99 rfl rfl ?_
    exact ⟨rfl, Or.inl ⟨by simp_all [z_st], rfl⟩⟩
theorem q_X9_stands_116 {σ : eb_S} (d : Nat) (x : Int32) : eb_Q mX9_stands (d + 1) [.int 116, .int x] σ (eb_b (z_st 116 x) σ) := by
  refine ep_meth pn_X.2.2.2.2.2.2.2.2.2.1 (Nat.le_of_ble_eq_true rfl) ?_
  show eb_P mX9_stands (d + 1) 0 [(0, .int 116), (1, .int x)] [] σ _
  refine ep_iload_n (i := 0) dX9_stands_0 rfl rfl ?_
  refine ep_lookup (off := 88) (tgt := 89) dX9_stands_1 (by decide) (by decide) (by decide) ?_
  refine ep_iload_n (i := 1) dX9_stands_89 rfl rfl ?_
  refine ep_iload_n (i := 0) dX9_stands_90 rfl rfl ?_
  refine ep_icmp_ne (tgt := 98) dX9_stands_91 (by decide) (fun c1 => ?_) (fun c1 => ?_)
  · skip
    refine ep_iconst (v := 0) dX9_stands_98 (by decide) ?_
    refine ep_iret dX9_stands_99 rfl rfl ?_
    exact ⟨rfl, Or.inr ⟨by simp_all [z_st], rfl⟩⟩
  · skip
    refine ep_iconst (v := 1) dX9_stands_94 (by decide) ?_
    refine ep_goto (tgt := 99) dX9_stands_95 (by decide) ?_
    refine ep_iret dX9_stands_99 rfl rfl ?_
    exact ⟨rfl, Or.inl ⟨by simp_all [z_st], rfl⟩⟩
theorem q_X9_stands_109 {σ : eb_S} (d : Nat) (x : Int32) : eb_Q mX9_stands (d + 1) [.int 109, .int x] σ (eb_b (z_st 109 x) σ) := by
  refine ep_meth pn_X.2.2.2.2.2.2.2.2.2.1 (Nat.le_of_ble_eq_true rfl) ?_
  show eb_P mX9_stands (d + 1) 0 [(0, .int 109), (1, .int x)] [] σ _
  refine ep_iload_n (i := 0) dX9_stands_0 rfl rfl ?_
  refine ep_lookup (off := 88) (tgt := 89) dX9_stands_1 (by decide) (by decide) (by decide) ?_
  refine ep_iload_n (i := 1) dX9_stands_89 rfl rfl ?_
  refine ep_iload_n (i := 0) dX9_stands_90 rfl rfl ?_
  refine ep_icmp_ne (tgt := 98) dX9_stands_91 (by decide) (fun c1 => ?_) (fun c1 => ?_)
  · skip
    refine ep_iconst (v := 0) dX9_stands_98 (by decide) ?_
    refine ep_iret dX9_stands_99 rfl rfl ?_
    exact ⟨rfl, Or.inr ⟨by simp_all [z_st], rfl⟩⟩
  · skip
    refine ep_iconst (v := 1) dX9_stands_94 (by decide) ?_
    refine ep_goto (tgt := 99) dX9_stands_95 (by decide) ?_
    refine ep_iret dX9_stands_99 rfl rfl ?_
    exact ⟨rfl, Or.inl ⟨by simp_all [z_st], rfl⟩⟩
theorem q_X9_stands_101 {σ : eb_S} (d : Nat) (x : Int32) : eb_Q mX9_stands (d + 1) [.int 101, .int x] σ (eb_b (z_st 101 x) σ) := by
  refine ep_meth pn_X.2.2.2.2.2.2.2.2.2.1 (Nat.le_of_ble_eq_true rfl) ?_
  show eb_P mX9_stands (d + 1) 0 [(0, .int 101), (1, .int x)] [] σ _
  refine ep_iload_n (i := 0) dX9_stands_0 rfl rfl ?_
  refine ep_lookup (off := 88) (tgt := 89) dX9_stands_1 (by decide) (by decide) (by decide) ?_
  refine ep_iload_n (i := 1) dX9_stands_89 rfl rfl ?_
  refine ep_iload_n (i := 0) dX9_stands_90 rfl rfl ?_
  refine ep_icmp_ne (tgt := 98) dX9_stands_91 (by decide) (fun c1 => ?_) (fun c1 => ?_)
  · skip
    refine ep_iconst (v := 0) dX9_stands_98 (by decide) ?_
    refine ep_iret dX9_stands_99 rfl rfl ?_
    exact ⟨rfl, Or.inr ⟨by simp_all [z_st], rfl⟩⟩
  · skip
    refine ep_iconst (v := 1) dX9_stands_94 (by decide) ?_
    refine ep_goto (tgt := 99) dX9_stands_95 (by decide) ?_
    refine ep_iret dX9_stands_99 rfl rfl ?_
    exact ⟨rfl, Or.inl ⟨by simp_all [z_st], rfl⟩⟩
theorem q_X9_stands_112 {σ : eb_S} (d : Nat) (x : Int32) : eb_Q mX9_stands (d + 1) [.int 112, .int x] σ (eb_b (z_st 112 x) σ) := by
  refine ep_meth pn_X.2.2.2.2.2.2.2.2.2.1 (Nat.le_of_ble_eq_true rfl) ?_
  show eb_P mX9_stands (d + 1) 0 [(0, .int 112), (1, .int x)] [] σ _
  refine ep_iload_n (i := 0) dX9_stands_0 rfl rfl ?_
  refine ep_lookup (off := 88) (tgt := 89) dX9_stands_1 (by decide) (by decide) (by decide) ?_
  refine ep_iload_n (i := 1) dX9_stands_89 rfl rfl ?_
  refine ep_iload_n (i := 0) dX9_stands_90 rfl rfl ?_
  refine ep_icmp_ne (tgt := 98) dX9_stands_91 (by decide) (fun c1 => ?_) (fun c1 => ?_)
  · skip
    refine ep_iconst (v := 0) dX9_stands_98 (by decide) ?_
    refine ep_iret dX9_stands_99 rfl rfl ?_
    exact ⟨rfl, Or.inr ⟨by simp_all [z_st], rfl⟩⟩
  · skip
    refine ep_iconst (v := 1) dX9_stands_94 (by decide) ?_
    refine ep_goto (tgt := 99) dX9_stands_95 (by decide) ?_
    refine ep_iret dX9_stands_99 rfl rfl ?_
    exact ⟨rfl, Or.inl ⟨by simp_all [z_st], rfl⟩⟩
theorem q_X9_stands_115 {σ : eb_S} (d : Nat) (x : Int32) : eb_Q mX9_stands (d + 1) [.int 115, .int x] σ (eb_b (z_st 115 x) σ) := by
  refine ep_meth pn_X.2.2.2.2.2.2.2.2.2.1 (Nat.le_of_ble_eq_true rfl) ?_
  show eb_P mX9_stands (d + 1) 0 [(0, .int 115), (1, .int x)] [] σ _
  refine ep_iload_n (i := 0) dX9_stands_0 rfl rfl ?_
  refine ep_lookup (off := 88) (tgt := 89) dX9_stands_1 (by decide) (by decide) (by decide) ?_
  refine ep_iload_n (i := 1) dX9_stands_89 rfl rfl ?_
  refine ep_iload_n (i := 0) dX9_stands_90 rfl rfl ?_
  refine ep_icmp_ne (tgt := 98) dX9_stands_91 (by decide) (fun c1 => ?_) (fun c1 => ?_)
  · skip
    refine ep_iconst (v := 0) dX9_stands_98 (by decide) ?_
    refine ep_iret dX9_stands_99 rfl rfl ?_
    exact ⟨rfl, Or.inr ⟨by simp_all [z_st], rfl⟩⟩
  · skip
    refine ep_iconst (v := 1) dX9_stands_94 (by decide) ?_
    refine ep_goto (tgt := 99) dX9_stands_95 (by decide) ?_
    refine ep_iret dX9_stands_99 rfl rfl ?_
    exact ⟨rfl, Or.inl ⟨by simp_all [z_st], rfl⟩⟩
theorem q_X9_stands {σ : eb_S} (d : Nat) {c : Int32} (hc : c ∈ ([57, 53, 49, 43, 59, 110, 116, 109, 101, 112, 115] : List Int32)) (x : Int32) : eb_Q mX9_stands (d + 1) [.int c, .int x] σ (eb_b (z_st c x) σ) := by
  simp only [List.mem_cons, List.not_mem_nil, or_false] at hc
  rcases hc with rfl | rfl | rfl | rfl | rfl | rfl | rfl | rfl | rfl | rfl | rfl
  · exact q_X9_stands_57 d x
  · exact q_X9_stands_53 d x
  · exact q_X9_stands_49 d x
  · exact q_X9_stands_43 d x
  · exact q_X9_stands_59 d x
  · exact q_X9_stands_110 d x
  · exact q_X9_stands_116 d x
  · exact q_X9_stands_109 d x
  · exact q_X9_stands_101 d x
  · exact q_X9_stands_112 d x
  · exact q_X9_stands_115 d x
theorem z_chs : ∀ i, i < 11 → 1 ≤ i → ∀ k, k < z_ln i → z_ch i k ∈ ([57, 53, 49, 43, 59, 110, 116, 109, 101, 112, 115] : List Int32) := by decide
def z_bad (t : Nat → Int32) (f : Nat) (mm : Nat) (p : Nat) : Prop := p = mm ∨ ¬ z_st (z_ch f (p % z_ln f)) (t p)
theorem nI_inj2 {a b : Nat} (ha : a < 2147483648) (hb : b < 2147483648) : nI a = nI b ↔ a = b := ⟨fun h => by have := congrArg Int32.toInt h; rw [nI_toInt ha, nI_toInt hb] at this; omega, fun h => by rw [h]⟩
def eb_rq (P : Int32 → Prop) (σ : eb_S) : Option Value → eb_S → Prop := fun r τ => τ = σ ∧ ∃ x, r = some (.int x) ∧ P x
theorem eb_rqok {P : Int32 → Prop} {σ : eb_S} {l : List (Nat × Value)} {rest : List Value} : ∀ r1 σ1, eb_rq P σ r1 σ1 → σ1.1 = σ.1 ∨ ((∀ q ∈ l, eb_okv σ.1 q.2) ∧ ∀ v ∈ rest, eb_okv σ.1 v) := fun _ _ h => Or.inl (by rw [h.1])
theorem q_X9_faultOf {n : Nat} {sl : Nat × Nat} {kd : Nat → Nat × Nat} {I : Nat → Nat → Int32} {L : Nat → Nat → Int64} {Rf : Nat → Nat → Option Nat} (d : Nat) {i : Nat} (h : eb_txt n kd Rf i) {m : Nat} (hm : I i 1 = nI m) (hm8 : m ≤ 80) {f mm : Nat} (hi : f < 11) (hf1 : 1 ≤ f) (hf0 : 0 < z_ln f) (hmm : mm < 2147483648) : eb_Q mX9_faultOf (d + 4) [.ref i, .ref (1000000 + f), .int (nI mm)] (n, sl, kd, I, L, Rf) (eb_rq (z_fst (z_bad (I (i + 1)) f mm) m) (n, sl, kd, I, L, Rf)) := by
  refine ep_meth pn_X.2.2.2.2.2.2.2.2.2.1 (Nat.le_of_ble_eq_true rfl) ?_
  show eb_P mX9_faultOf (d + 4) 0 [(0, .ref i), (1, .ref (1000000 + f)), (2, .int (nI mm))] [] (n, sl, kd, I, L, Rf) _
  refine ep_iconst (v := 0) dX9_faultOf_0 (by decide) ?_
  refine ep_istore_n (l' := [(3, .int 0), (0, .ref i), (1, .ref (1000000 + f)), (2, .int (nI mm))]) dX9_faultOf_1 rfl (by decide) rfl ?_
  refine ep_iconst (v := 0) dX9_faultOf_2 (by decide) ?_
  refine ep_istore (l' := [(4, .int 0), (3, .int 0), (0, .ref i), (1, .ref (1000000 + f)), (2, .int (nI mm))]) dX9_faultOf_3 (by decide) rfl ?_
  refine ep_eq (l2 := [(4, .int (nI 0)), (3, .int (nI (0 % z_ln f))), (0, .ref i), (1, .ref (1000000 + f)), (2, .int (nI mm))]) (σ2 := (n, sl, kd, I, L, Rf)) rfl (by rw [Nat.zero_mod, nI_0]) rfl rfl ?_
  refine ep_for m (fun k (a : Unit) => ([(4, .int (nI k)), (3, .int (nI (k % z_ln f))), (0, .ref i), (1, .ref (1000000 + f)), (2, .int (nI mm))], (n, sl, kd, I, L, Rf))) (fun k a => ∀ q, q < k → ¬ z_bad (I (i + 1)) f mm q) ?_ ?_ m 0 () (by omega) (fun q hq => absurd hq (Nat.not_lt_zero q))
  · intro k a hk hinv ih
    show eb_P _ _ 5 [(4, .int (nI k)), (3, .int (nI (k % z_ln f))), (0, .ref i), (1, .ref (1000000 + f)), (2, .int (nI mm))] [] (n, sl, kd, I, L, Rf) _
    refine ep_iload (i := 4) dX9_faultOf_5 rfl ?_
    refine ep_aload_n (i := 0) dX9_faultOf_7 rfl rfl ?_
    refine ep_getI dX9_faultOf_8 flX9_15 (by have := h.2.2.2.1; omega) h.1 ?_
    refine ep_icmp_ge (tgt := 73) dX9_faultOf_11 (by decide) (fun c1 => absurd c1 (by rw [hm]; exact nI_ge hk (by omega))) (fun c1 => ?_)
    refine ep_iload (i := 4) dX9_faultOf_14 rfl ?_
    refine ep_iload_n (i := 2) dX9_faultOf_16 rfl rfl ?_
    refine ep_icmp_eq (tgt := 46) dX9_faultOf_17 (by decide) (fun c2 => ?_) (fun c2 => ?_)
    · skip
      refine ep_iload (i := 4) dX9_faultOf_46 rfl ?_
      refine ep_iret dX9_faultOf_48 rfl rfl ?_
      exact ⟨rfl, nI k, rfl, Or.inl ⟨k, hk, by first | exact Or.inr b1 | exact Or.inl (by have g1 := (nI_inj2 (a := k) (b := mm) (by omega) (by omega)).mp (by assumption); exact g1), hinv, rfl⟩⟩
    · skip
      refine ep_iload_n (i := 3) dX9_faultOf_20 rfl rfl ?_
      refine ep_aload_n (i := 1) dX9_faultOf_21 rfl rfl ?_
      refine ep_callT (M1 := mJ0_length_8abf5) (i := f) (rest := [.int (nI (k % z_ln f))]) hi rfl dX9_faultOf_22 mkX9_34 mcJ0_length_8abf5 mtJ0_length_8abf5 rfl (Nat.le_of_ble_eq_true rfl) rfl (q_J0_length_8abf5 (d + 2) hi) eb_rok ?_
      rintro _ _ ⟨rfl, rfl⟩
      show eb_P _ _ 25 [(4, .int (nI k)), (3, .int (nI (k % z_ln f))), (0, .ref i), (1, .ref (1000000 + f)), (2, .int (nI mm))] (.int (nI (z_ln f)) :: [.int (nI (k % z_ln f))]) _ _
      refine ep_icmp_ge (tgt := 46) dX9_faultOf_25 (by decide) (fun c3 => absurd c3 (nI_ge (Nat.mod_lt k hf0) (by have := z_ln7 f hi; omega))) (fun c3 => ?_)
      refine ep_aload_n (i := 1) dX9_faultOf_28 rfl rfl ?_
      refine ep_iload_n (i := 3) dX9_faultOf_29 rfl rfl ?_
      refine ep_callT (M1 := mJ0_charAt_5068e) (i := f) (rest := []) hi rfl dX9_faultOf_30 mkX9_54 mcJ0_charAt_5068e mtJ0_charAt_5068e rfl (Nat.le_of_ble_eq_true rfl) rfl (q_J0_charAt_5068e d hi (Nat.mod_lt k hf0)) eb_rok ?_
      rintro _ _ ⟨rfl, rfl⟩
      show eb_P _ _ 33 [(4, .int (nI k)), (3, .int (nI (k % z_ln f))), (0, .ref i), (1, .ref (1000000 + f)), (2, .int (nI mm))] (.int (z_ch f (k % z_ln f)) :: []) _ _
      refine ep_aload_n (i := 0) dX9_faultOf_33 rfl rfl ?_
      refine ep_getR dX9_faultOf_34 flX9_9 (by have := h.2.2.2.1; omega) h.1 h.2.2.1 ?_
      refine ep_iload (i := 4) dX9_faultOf_37 rfl ?_
      refine ep_iaN dX9_faultOf_39 h.2.2.2.1 h.2.1 (by omega) (by decide) ?_
      refine ep_callS (M1 := mX9_stands) (rest := []) dX9_faultOf_40 mlX9_58 msX9_stands rfl (Nat.le_of_ble_eq_true rfl) rfl (q_X9_stands (d + 2) (z_chs f hi hf1 _ (Nat.mod_lt k hf0)) (I (i + 1) k)) eb_bok ?_
      rintro _ _ ⟨rfl, ⟨b1, rfl⟩ | ⟨b1, rfl⟩⟩
      · show eb_P _ _ 43 [(4, .int (nI k)), (3, .int (nI (k % z_ln f))), (0, .ref i), (1, .ref (1000000 + f)), (2, .int (nI mm))] (.int 1 :: []) _ _
        refine ep_if_ne (tgt := 49) dX9_faultOf_43 (by decide) (fun c4 => ?_) (fun c4 => absurd (by decide) c4)
        refine ep_iload_n (i := 3) dX9_faultOf_49 rfl rfl ?_
        refine ep_iconst (v := 1) dX9_faultOf_50 (by decide) ?_
        refine ep_iadd dX9_faultOf_51 ?_
        refine ep_topE (y := nI (k % z_ln f + 1)) (nI_1 _) ?_
        refine ep_aload_n (i := 1) dX9_faultOf_52 rfl rfl ?_
        refine ep_callT (M1 := mJ0_length_8abf5) (i := f) (rest := [.int (nI (k % z_ln f + 1))]) hi rfl dX9_faultOf_53 mkX9_34 mcJ0_length_8abf5 mtJ0_length_8abf5 rfl (Nat.le_of_ble_eq_true rfl) rfl (q_J0_length_8abf5 (d + 2) hi) eb_rok ?_
        rintro _ _ ⟨rfl, rfl⟩
        show eb_P _ _ 56 [(4, .int (nI k)), (3, .int (nI (k % z_ln f))), (0, .ref i), (1, .ref (1000000 + f)), (2, .int (nI mm))] (.int (nI (z_ln f)) :: [.int (nI (k % z_ln f + 1))]) _ _
        refine ep_icmp_ge (tgt := 65) dX9_faultOf_56 (by decide) (fun c5 => ?_) (fun c5 => ?_)
        · skip
          refine ep_iconst (v := 0) dX9_faultOf_65 (by decide) ?_
          refine ep_istore_n (l' := [(3, .int 0), (4, .int (nI k)), (0, .ref i), (1, .ref (1000000 + f)), (2, .int (nI mm))]) dX9_faultOf_66 rfl (by decide) rfl ?_
          refine ep_iinc (v := (nI (k + 1))) (l' := [(4, .int ((nI (k + 1)))), (3, .int 0), (0, .ref i), (1, .ref (1000000 + f)), (2, .int (nI mm))]) dX9_faultOf_67 rfl (nI_1 _) (by decide) rfl ?_
          refine ep_goto (tgt := 5) dX9_faultOf_70 (by decide) ?_
          refine ep_eq (l2 := [(4, .int (nI (k + 1))), (3, .int (nI ((k + 1) % z_ln f))), (0, .ref i), (1, .ref (1000000 + f)), (2, .int (nI mm))]) rfl ?_ rfl rfl (ih () ?_)
          · clear ih; rw [z_md hf0]; first | rw [if_pos (by have := z_ln7 f hi; have g1 := Nat.mod_lt k hf0; first | exact (nI_ltI (by omega) (by omega)).mp (by simp only [Int32.lt_iff_toInt_lt, Int32.le_iff_toInt_le] at *; omega))] | rw [if_neg (by have := z_ln7 f hi; have g1 := Nat.mod_lt k hf0; intro g; have g2 := nI_lt g (by omega); simp only [Int32.lt_iff_toInt_lt, Int32.le_iff_toInt_le] at *; omega), nI_0]
          · intro q hq; by_cases hqk : q = k
            · subst hqk; rintro (g | g)
              · exact absurd (congrArg nI g) (by assumption)
              · exact g b1
            · exact hinv q (by omega)
        · skip
          refine ep_iload_n (i := 3) dX9_faultOf_59 rfl rfl ?_
          refine ep_iconst (v := 1) dX9_faultOf_60 (by decide) ?_
          refine ep_iadd dX9_faultOf_61 ?_
          refine ep_topE (y := nI (k % z_ln f + 1)) (nI_1 _) ?_
          refine ep_goto (tgt := 66) dX9_faultOf_62 (by decide) ?_
          refine ep_istore_n (l' := [(3, .int (nI (k % z_ln f + 1))), (4, .int (nI k)), (0, .ref i), (1, .ref (1000000 + f)), (2, .int (nI mm))]) dX9_faultOf_66 rfl (by decide) rfl ?_
          refine ep_iinc (v := (nI (k + 1))) (l' := [(4, .int ((nI (k + 1)))), (3, .int (nI (k % z_ln f + 1))), (0, .ref i), (1, .ref (1000000 + f)), (2, .int (nI mm))]) dX9_faultOf_67 rfl (nI_1 _) (by decide) rfl ?_
          refine ep_goto (tgt := 5) dX9_faultOf_70 (by decide) ?_
          refine ep_eq (l2 := [(4, .int (nI (k + 1))), (3, .int (nI ((k + 1) % z_ln f))), (0, .ref i), (1, .ref (1000000 + f)), (2, .int (nI mm))]) rfl ?_ rfl rfl (ih () ?_)
          · clear ih; rw [z_md hf0]; first | rw [if_pos (by have := z_ln7 f hi; have g1 := Nat.mod_lt k hf0; first | exact (nI_ltI (by omega) (by omega)).mp (by simp only [Int32.lt_iff_toInt_lt, Int32.le_iff_toInt_le] at *; omega))] | rw [if_neg (by have := z_ln7 f hi; have g1 := Nat.mod_lt k hf0; intro g; have g2 := nI_lt g (by omega); simp only [Int32.lt_iff_toInt_lt, Int32.le_iff_toInt_le] at *; omega), nI_0]
          · intro q hq; by_cases hqk : q = k
            · subst hqk; rintro (g | g)
              · exact absurd (congrArg nI g) (by assumption)
              · exact g b1
            · exact hinv q (by omega)
      · show eb_P _ _ 43 [(4, .int (nI k)), (3, .int (nI (k % z_ln f))), (0, .ref i), (1, .ref (1000000 + f)), (2, .int (nI mm))] (.int 0 :: []) _ _
        refine ep_if_ne (tgt := 49) dX9_faultOf_43 (by decide) (fun c6 => absurd c6 (by decide)) (fun c6 => ?_)
        refine ep_iload (i := 4) dX9_faultOf_46 rfl ?_
        refine ep_iret dX9_faultOf_48 rfl rfl ?_
        exact ⟨rfl, nI k, rfl, Or.inl ⟨k, hk, by first | exact Or.inr b1 | exact Or.inl (by have g1 := (nI_inj2 (a := k) (b := mm) (by omega) (by omega)).mp (by assumption); exact g1), hinv, rfl⟩⟩
  · intro a hinv
    show eb_P _ _ 5 [(4, .int (nI m)), (3, .int (nI (m % z_ln f))), (0, .ref i), (1, .ref (1000000 + f)), (2, .int (nI mm))] [] (n, sl, kd, I, L, Rf) _
    refine ep_iload (i := 4) dX9_faultOf_5 rfl ?_
    refine ep_aload_n (i := 0) dX9_faultOf_7 rfl rfl ?_
    refine ep_getI dX9_faultOf_8 flX9_15 (by have := h.2.2.2.1; omega) h.1 ?_
    refine ep_icmp_ge (tgt := 73) dX9_faultOf_11 (by decide) (fun c7 => ?_) (fun c7 => absurd (by rw [hm]; exact nI_le (Nat.le_refl _) (by omega)) c7)
    refine ep_iconst (v := (-1)) dX9_faultOf_73 (by decide) ?_
    refine ep_iret dX9_faultOf_74 rfl rfl ?_
    exact ⟨rfl, -1, rfl, Or.inr ⟨hinv, rfl⟩⟩
