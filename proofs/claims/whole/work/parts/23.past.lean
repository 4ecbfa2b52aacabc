/-! Past: cells i, i + 1 (the row of ships), ships at i + 2 + 4 j -/
def eb_pst (n : Nat) (kd : Nat → Nat × Nat) (Rf : Nat → Nat → Option Nat) (i : Nat) : Prop := (kd i).1 = 2 ∧ kd (i + 1) = (24, 12) ∧ Rf i 0 = some (i + 1) ∧ (∀ j, j < 12 → Rf (i + 1) j = some (i + 2 + 4 * j) ∧ eb_shp n kd Rf (i + 2 + 4 * j)) ∧ i + 50 ≤ n ∧ n < 1000000
theorem z_cpo {I : Nat → Nat → Int32} {i j c a q : Nat} (h : a < i ∨ i + 4 ≤ a) : z_cp I i j c a q = I a q := by
  simp only [z_cp, z_ca]
  rw [if_neg (by omega), if_neg (by omega), if_neg (by omega), if_neg (by omega)]
theorem q_X2_empty {n : Nat} {sl : Nat × Nat} {kd : Nat → Nat × Nat} {I : Nat → Nat → Int32} {L : Nat → Nat → Int64} {Rf : Nat → Nat → Option Nat} (d : Nat) {i : Nat} (h : eb_pst n kd Rf i)  : eb_Q mX2_empty d [.ref i] (n, sl, kd, I, L, Rf) (eb_v (n, sl, kd, z_set I i 2 0, L, Rf)) := by
  refine ep_meth pn_X.2.2.1 (Nat.le_of_ble_eq_true rfl) ?_
  show eb_P mX2_empty (d) 0 [(0, .ref i)] [] (n, sl, kd, I, L, Rf) _
  refine ep_aload_n (i := 0) dX2_empty_0 rfl rfl ?_
  refine ep_iconst (v := 0) dX2_empty_1 (by decide) ?_
  refine ep_pI dX2_empty_2 plX2_16 (by have := h.2.2.2.2.1; omega) (by have := h.2.2.2.2; omega) h.1 rfl rfl ?_
  refine ep_nmI (fun I1 hI1 => ?_)
  refine ep_vret dX2_empty_5 rfl ?_
  exact ⟨by simp_all, rfl⟩
theorem q_X2_add_few {n : Nat} {sl : Nat × Nat} {kd : Nat → Nat × Nat} {I : Nat → Nat → Int32} {L : Nat → Nat → Int64} {Rf : Nat → Nat → Option Nat} (d : Nat) {i : Nat} (h : eb_pst n kd Rf i) {o s j c : Nat} (ho : I i 1 = nI o) (ho2 : o < 12) (hsz : I i 2 = nI s) (g : eb_shp n kd Rf j) (hc : I j 3 = nI c) (hc7 : c ≤ 7) (hij : j + 4 ≤ i ∨ i + 50 ≤ j) (hs2 : s < 12) : eb_Q mX2_add (d + 1) [.ref i, .ref j] (n, sl, kd, I, L, Rf) (eb_v (n, sl, kd, z_set (z_cp I (i + 2 + 4 * ((o + s) % 12)) j c) i 2 (nI (s + 1)), L, Rf)) := by
  refine ep_meth pn_X.2.2.1 (Nat.le_of_ble_eq_true rfl) ?_
  show eb_P mX2_add (d + 1) 0 [(0, .ref i), (1, .ref j)] [] (n, sl, kd, I, L, Rf) _
  obtain ⟨hr, hs⟩ := h.2.2.2.1 ((o + s) % 12) (Nat.mod_lt _ (by decide))
  have hm := Nat.mod_lt (o + s) (show 0 < 12 by decide)
  refine ep_aload_n (i := 0) dX2_add_0 rfl rfl ?_
  refine ep_getR dX2_add_1 flX2_11 (by have := h.2.2.2.2.1; omega) h.1 h.2.2.1 ?_
  refine ep_aload_n (i := 0) dX2_add_4 rfl rfl ?_
  refine ep_getI dX2_add_5 flX2_20 (by have := h.2.2.2.2.1; omega) h.1 ?_
  refine ep_topE (y := nI o) ho ?_
  refine ep_aload_n (i := 0) dX2_add_8 rfl rfl ?_
  refine ep_getI dX2_add_9 flX2_16 (by have := h.2.2.2.2.1; omega) h.1 ?_
  refine ep_topE (y := nI s) hsz ?_
  refine ep_iadd dX2_add_12 ?_
  refine ep_topE (y := nI (o + s)) (nI_add o s) ?_
  refine ep_bipush (v := 12) dX2_add_13 (by decide) ?_
  refine ep_irem dX2_add_15 (by decide) ?_
  refine ep_topE (y := nI ((o + s) % 12)) (pk_rem (a := o + s) (d := 12) (by omega) (by decide) (by decide)) ?_
  refine ep_aaN dX2_add_16 (by have := h.2.2.2.2.1; omega) h.2.1 hm (by decide) hr ?_
  refine ep_aload_n (i := 1) dX2_add_17 rfl rfl ?_
  refine ep_callV (M1 := mX7_copy) (rest := []) dX2_add_18 mlX2_23 mvX7_copy rfl (hs).i0 (hs).1 (Nat.le_of_ble_eq_true rfl) rfl (q_X7_copy d hs g (by omega) hc hc7) (eb_vok rfl) ?_
  rintro _ _ ⟨rfl, rfl⟩
  show eb_P _ _ 21 [(0, .ref i), (1, .ref j)] [] (n, sl, kd, z_cp I (i + 2 + 4 * ((o + s) % 12)) j c, L, Rf) _
  refine ep_aload_n (i := 0) dX2_add_21 rfl rfl ?_
  refine ep_getI dX2_add_22 flX2_16 (by have := h.2.2.2.2.1; omega) h.1 ?_
  refine ep_topE (y := nI s) (by rw [z_cpo (by omega)]; exact hsz) ?_
  refine ep_bipush (v := 12) dX2_add_25 (by decide) ?_
  refine ep_icmp_ge (tgt := 43) dX2_add_27 (by decide) (fun c1 => absurd c1 (nI_ge (a := s) (b := 12) hs2 (by decide))) (fun c1 => ?_)
  refine ep_aload_n (i := 0) dX2_add_30 rfl rfl ?_
  refine ep_dup dX2_add_31 rfl ?_
  refine ep_getI dX2_add_32 flX2_16 (by have := h.2.2.2.2.1; omega) h.1 ?_
  refine ep_topE (y := nI s) (by rw [z_cpo (by omega)]; exact hsz) ?_
  refine ep_iconst (v := 1) dX2_add_35 (by decide) ?_
  refine ep_iadd dX2_add_36 ?_
  refine ep_topE (y := nI (s + 1)) (nI_1 _) ?_
  refine ep_pI dX2_add_37 plX2_16 (by have := h.2.2.2.2.1; omega) (by have := h.2.2.2.2; omega) h.1 rfl rfl ?_
  refine ep_nmI (fun I2 hI2 => ?_)
  refine ep_goto (tgt := 56) dX2_add_40 (by decide) ?_
  refine ep_vret dX2_add_56 rfl ?_
  exact ⟨by simp_all, rfl⟩
theorem q_X2_add_full {n : Nat} {sl : Nat × Nat} {kd : Nat → Nat × Nat} {I : Nat → Nat → Int32} {L : Nat → Nat → Int64} {Rf : Nat → Nat → Option Nat} (d : Nat) {i : Nat} (h : eb_pst n kd Rf i) {o s j c : Nat} (ho : I i 1 = nI o) (ho2 : o < 12) (hsz : I i 2 = nI s) (g : eb_shp n kd Rf j) (hc : I j 3 = nI c) (hc7 : c ≤ 7) (hij : j + 4 ≤ i ∨ i + 50 ≤ j) (hs2 : s = 12) : eb_Q mX2_add (d + 1) [.ref i, .ref j] (n, sl, kd, I, L, Rf) (eb_v (n, sl, kd, z_set (z_cp I (i + 2 + 4 * ((o + s) % 12)) j c) i 1 (nI ((o + 1) % 12)), L, Rf)) := by
  refine ep_meth pn_X.2.2.1 (Nat.le_of_ble_eq_true rfl) ?_
  show eb_P mX2_add (d + 1) 0 [(0, .ref i), (1, .ref j)] [] (n, sl, kd, I, L, Rf) _
  obtain ⟨hr, hs⟩ := h.2.2.2.1 ((o + s) % 12) (Nat.mod_lt _ (by decide))
  have hm := Nat.mod_lt (o + s) (show 0 < 12 by decide)
  refine ep_aload_n (i := 0) dX2_add_0 rfl rfl ?_
  refine ep_getR dX2_add_1 flX2_11 (by have := h.2.2.2.2.1; omega) h.1 h.2.2.1 ?_
  refine ep_aload_n (i := 0) dX2_add_4 rfl rfl ?_
  refine ep_getI dX2_add_5 flX2_20 (by have := h.2.2.2.2.1; omega) h.1 ?_
  refine ep_topE (y := nI o) ho ?_
  refine ep_aload_n (i := 0) dX2_add_8 rfl rfl ?_
  refine ep_getI dX2_add_9 flX2_16 (by have := h.2.2.2.2.1; omega) h.1 ?_
  refine ep_topE (y := nI s) hsz ?_
  refine ep_iadd dX2_add_12 ?_
  refine ep_topE (y := nI (o + s)) (nI_add o s) ?_
  refine ep_bipush (v := 12) dX2_add_13 (by decide) ?_
  refine ep_irem dX2_add_15 (by decide) ?_
  refine ep_topE (y := nI ((o + s) % 12)) (pk_rem (a := o + s) (d := 12) (by omega) (by decide) (by decide)) ?_
  refine ep_aaN dX2_add_16 (by have := h.2.2.2.2.1; omega) h.2.1 hm (by decide) hr ?_
  refine ep_aload_n (i := 1) dX2_add_17 rfl rfl ?_
  refine ep_callV (M1 := mX7_copy) (rest := []) dX2_add_18 mlX2_23 mvX7_copy rfl (hs).i0 (hs).1 (Nat.le_of_ble_eq_true rfl) rfl (q_X7_copy d hs g (by omega) hc hc7) (eb_vok rfl) ?_
  rintro _ _ ⟨rfl, rfl⟩
  show eb_P _ _ 21 [(0, .ref i), (1, .ref j)] [] (n, sl, kd, z_cp I (i + 2 + 4 * ((o + s) % 12)) j c, L, Rf) _
  refine ep_aload_n (i := 0) dX2_add_21 rfl rfl ?_
  refine ep_getI dX2_add_22 flX2_16 (by have := h.2.2.2.2.1; omega) h.1 ?_
  refine ep_topE (y := nI s) (by rw [z_cpo (by omega)]; exact hsz) ?_
  refine ep_bipush (v := 12) dX2_add_25 (by decide) ?_
  refine ep_icmp_ge (tgt := 43) dX2_add_27 (by decide) (fun c1 => ?_) (fun c1 => absurd (by rw [hs2]; decide) c1)
  refine ep_aload_n (i := 0) dX2_add_43 rfl rfl ?_
  refine ep_aload_n (i := 0) dX2_add_44 rfl rfl ?_
  refine ep_getI dX2_add_45 flX2_20 (by have := h.2.2.2.2.1; omega) h.1 ?_
  refine ep_topE (y := nI o) (by rw [z_cpo (by omega)]; exact ho) ?_
  refine ep_iconst (v := 1) dX2_add_48 (by decide) ?_
  refine ep_iadd dX2_add_49 ?_
  refine ep_topE (y := nI (o + 1)) (nI_1 _) ?_
  refine ep_bipush (v := 12) dX2_add_50 (by decide) ?_
  refine ep_irem dX2_add_52 (by decide) ?_
  refine ep_topE (y := nI ((o + 1) % 12)) (pk_rem (a := o + 1) (d := 12) (by omega) (by decide) (by decide)) ?_
  refine ep_pI dX2_add_53 plX2_20 (by have := h.2.2.2.2.1; omega) (by have := h.2.2.2.2; omega) h.1 rfl rfl ?_
  refine ep_nmI (fun I2 hI2 => ?_)
  refine ep_vret dX2_add_56 rfl ?_
  exact ⟨by simp_all, rfl⟩
theorem q_X2_takeLatest_ok {n : Nat} {sl : Nat × Nat} {kd : Nat → Nat × Nat} {I : Nat → Nat → Int32} {L : Nat → Nat → Int64} {Rf : Nat → Nat → Option Nat} (d : Nat) {i : Nat} (h : eb_pst n kd Rf i) {o s j c : Nat} (ho : I i 1 = nI o) (ho2 : o < 12) (hsz : I i 2 = nI (s + 1)) (hs12 : s < 12) (g : eb_shp n kd Rf j) (hc : I (i + 2 + 4 * ((o + s) % 12)) 3 = nI c) (hc7 : c ≤ 7) (hij : j + 4 ≤ i ∨ i + 50 ≤ j)  : eb_Q mX2_takeLatest (d + 1) [.ref i, .ref j] (n, sl, kd, I, L, Rf) (eb_r 1 (n, sl, kd, z_cp (z_set I i 2 (nI s)) j (i + 2 + 4 * ((o + s) % 12)) c, L, Rf)) := by
  refine ep_meth pn_X.2.2.1 (Nat.le_of_ble_eq_true rfl) ?_
  show eb_P mX2_takeLatest (d + 1) 0 [(0, .ref i), (1, .ref j)] [] (n, sl, kd, I, L, Rf) _
  obtain ⟨hr, hs⟩ := h.2.2.2.1 ((o + s) % 12) (Nat.mod_lt _ (by decide))
  have hm := Nat.mod_lt (o + s) (show 0 < 12 by decide)
  refine ep_aload_n (i := 0) dX2_takeLatest_0 rfl rfl ?_
  refine ep_getI dX2_takeLatest_1 flX2_16 (by have := h.2.2.2.2.1; omega) h.1 ?_
  refine ep_topE (y := nI (s + 1)) hsz ?_
  refine ep_if_ne (tgt := 9) dX2_takeLatest_4 (by decide) (fun c1 => ?_) (fun c1 => absurd (nI_ne0 (Nat.succ_pos s) (by omega)) c1)
  refine ep_aload_n (i := 0) dX2_takeLatest_9 rfl rfl ?_
  refine ep_dup dX2_takeLatest_10 rfl ?_
  refine ep_getI dX2_takeLatest_11 flX2_16 (by have := h.2.2.2.2.1; omega) h.1 ?_
  refine ep_topE (y := nI (s + 1)) hsz ?_
  refine ep_iconst (v := 1) dX2_takeLatest_14 (by decide) ?_
  refine ep_isub dX2_takeLatest_15 ?_
  refine ep_topE (y := nI s) (by rw [show (1 : Int32) = nI 1 from by decide, pk_sub (by omega)]; rfl) ?_
  refine ep_pI dX2_takeLatest_16 plX2_16 (by have := h.2.2.2.2.1; omega) (by have := h.2.2.2.2; omega) h.1 rfl rfl ?_
  refine ep_nmI (fun I2 hI2 => ?_)
  refine ep_aload_n (i := 1) dX2_takeLatest_19 rfl rfl ?_
  refine ep_aload_n (i := 0) dX2_takeLatest_20 rfl rfl ?_
  refine ep_getR dX2_takeLatest_21 flX2_11 (by have := h.2.2.2.2.1; omega) h.1 h.2.2.1 ?_
  refine ep_aload_n (i := 0) dX2_takeLatest_24 rfl rfl ?_
  refine ep_getI dX2_takeLatest_25 flX2_20 (by have := h.2.2.2.2.1; omega) h.1 ?_
  refine ep_topE (y := nI o) (by simp_all [z_set]) ?_
  refine ep_aload_n (i := 0) dX2_takeLatest_28 rfl rfl ?_
  refine ep_getI dX2_takeLatest_29 flX2_16 (by have := h.2.2.2.2.1; omega) h.1 ?_
  refine ep_topE (y := nI s) (by simp_all [z_set]) ?_
  refine ep_iadd dX2_takeLatest_32 ?_
  refine ep_topE (y := nI (o + s)) (nI_add o s) ?_
  refine ep_bipush (v := 12) dX2_takeLatest_33 (by decide) ?_
  refine ep_irem dX2_takeLatest_35 (by decide) ?_
  refine ep_topE (y := nI ((o + s) % 12)) (pk_rem (a := o + s) (d := 12) (by omega) (by decide) (by decide)) ?_
  refine ep_aaN dX2_takeLatest_36 (by have := h.2.2.2.2.1; omega) h.2.1 hm (by decide) hr ?_
  refine ep_callV (M1 := mX7_copy) (rest := []) dX2_takeLatest_37 mlX2_23 mvX7_copy rfl g.i0 g.1 (Nat.le_of_ble_eq_true rfl) rfl (q_X7_copy (I := I2) d g hs (by omega) (c := c) (by simp only [hI2, z_set]; rw [if_neg (by omega)]; exact hc) hc7) (eb_vok rfl) ?_
  rintro _ _ ⟨rfl, rfl⟩
  show eb_P _ _ 40 [(0, .ref i), (1, .ref j)] [] (n, sl, kd, z_cp I2 j (i + 2 + 4 * ((o + s) % 12)) c, L, Rf) _
  refine ep_iconst (v := 1) dX2_takeLatest_40 (by decide) ?_
  refine ep_iret dX2_takeLatest_41 rfl rfl ?_
  exact ⟨by simp_all, rfl⟩
theorem q_X2_takeLatest_no {n : Nat} {sl : Nat × Nat} {kd : Nat → Nat × Nat} {I : Nat → Nat → Int32} {L : Nat → Nat → Int64} {Rf : Nat → Nat → Option Nat} (d : Nat) {i : Nat} (h : eb_pst n kd Rf i) {j : Nat} (hsz : I i 2 = 0) : eb_Q mX2_takeLatest d [.ref i, .ref j] (n, sl, kd, I, L, Rf) (eb_r 0 (n, sl, kd, I, L, Rf)) := by
  refine ep_meth pn_X.2.2.1 (Nat.le_of_ble_eq_true rfl) ?_
  show eb_P mX2_takeLatest (d) 0 [(0, .ref i), (1, .ref j)] [] (n, sl, kd, I, L, Rf) _
  refine ep_aload_n (i := 0) dX2_takeLatest_0 rfl rfl ?_
  refine ep_getI dX2_takeLatest_1 flX2_16 (by have := h.2.2.2.2.1; omega) h.1 ?_
  refine ep_if_ne (tgt := 9) dX2_takeLatest_4 (by decide) (fun c1 => absurd c1 (fun z => z hsz)) (fun c1 => ?_)
  refine ep_iconst (v := 0) dX2_takeLatest_7 (by decide) ?_
  refine ep_iret dX2_takeLatest_8 rfl rfl ?_
  exact ⟨rfl, rfl⟩
