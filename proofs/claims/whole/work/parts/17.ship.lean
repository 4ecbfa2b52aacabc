/-! Ship: cells i (object), i + 1 gravity, i + 2 thought, i + 3 place -/
def eb_shp (n : Nat) (kd : Nat → Nat × Nat) (Rf : Nat → Nat → Option Nat) (i : Nat) : Prop := (kd i).1 = 7 ∧ kd (i + 1) = (20, 7) ∧ kd (i + 2) = (20, 7) ∧ kd (i + 3) = (20, 7) ∧ Rf i 0 = some (i + 1) ∧ Rf i 1 = some (i + 2) ∧ Rf i 2 = some (i + 3) ∧ i + 3 < n ∧ n < 1000000
theorem eb_shp.i0 {n : Nat} {kd : Nat → Nat × Nat} {Rf : Nat → Nat → Option Nat} {i : Nat} (h : eb_shp n kd Rf i) : i < n := by have := h.2.2.2.2.2.2.2.1; omega
theorem eb_shp.i1 {n : Nat} {kd : Nat → Nat × Nat} {Rf : Nat → Nat → Option Nat} {i : Nat} (h : eb_shp n kd Rf i) : i + 1 < n := by have := h.2.2.2.2.2.2.2.1; omega
theorem eb_shp.i2 {n : Nat} {kd : Nat → Nat × Nat} {Rf : Nat → Nat → Option Nat} {i : Nat} (h : eb_shp n kd Rf i) : i + 2 < n := by have := h.2.2.2.2.2.2.2.1; omega
theorem eb_shp.i3 {n : Nat} {kd : Nat → Nat × Nat} {Rf : Nat → Nat → Option Nat} {i : Nat} (h : eb_shp n kd Rf i) : i + 3 < n := h.2.2.2.2.2.2.2.1
theorem eb_shp.x {n : Nat} {kd : Nat → Nat × Nat} {Rf : Nat → Nat → Option Nat} {i : Nat} (h : eb_shp n kd Rf i) : i + 3 < 1000000 := by have := h.2.2.2.2.2.2.2; omega
/-- how many of the first k have x, less 1 -/
def z_cnt (t : Nat → Int32) (x : Int32) : Nat → Int32
  | 0 => -1
  | k + 1 => z_cnt t x k + (if t k = x then 1 else 0)
/-- the sum of the first k -/
def z_sum (t : Nat → Int32) : Nat → Int32
  | 0 => 0
  | k + 1 => z_sum t k + t k

theorem q_X7_has {n : Nat} {sl : Nat × Nat} {kd : Nat → Nat × Nat} {I : Nat → Nat → Int32} {L : Nat → Nat → Int64} {Rf : Nat → Nat → Option Nat} (d : Nat) {i : Nat} (h : eb_shp n kd Rf i) (b : Int32) : eb_Q mX7_has d [.ref i, .int b] (n, sl, kd, I, L, Rf) (eb_b (0 ≤ b ∧ b < I i 3) (n, sl, kd, I, L, Rf)) := by
  refine ep_meth pn_X.2.2.2.2.2.2.2.1 (Nat.le_of_ble_eq_true rfl) ?_
  show eb_P mX7_has (d) 0 [(0, .ref i), (1, .int b)] [] (n, sl, kd, I, L, Rf) _
  refine ep_iload_n (i := 1) dX7_has_0 rfl rfl ?_
  refine ep_if_lt (tgt := 16) dX7_has_1 (by decide) (fun c1 => ?_) (fun c1 => ?_)
  · skip
    refine ep_iconst (v := 0) dX7_has_16 (by decide) ?_
    refine ep_iret dX7_has_17 rfl (by decide) ?_
    exact ⟨rfl, Or.inr ⟨by simp only [Int32.lt_iff_toInt_lt, Int32.le_iff_toInt_le] at *; omega, rfl⟩⟩
  · skip
    refine ep_iload_n (i := 1) dX7_has_4 rfl rfl ?_
    refine ep_aload_n (i := 0) dX7_has_5 rfl rfl ?_
    refine ep_getI dX7_has_6 flX7_25 h.i0 h.1 ?_
    refine ep_icmp_ge (tgt := 16) dX7_has_9 (by decide) (fun c2 => ?_) (fun c2 => ?_)
    · skip
      refine ep_iconst (v := 0) dX7_has_16 (by decide) ?_
      refine ep_iret dX7_has_17 rfl (by decide) ?_
      exact ⟨rfl, Or.inr ⟨by simp only [Int32.lt_iff_toInt_lt, Int32.le_iff_toInt_le] at *; omega, rfl⟩⟩
    · skip
      refine ep_iconst (v := 1) dX7_has_12 (by decide) ?_
      refine ep_goto (tgt := 17) dX7_has_13 (by decide) ?_
      refine ep_iret dX7_has_17 rfl (by decide) ?_
      exact ⟨rfl, Or.inl ⟨by simp only [Int32.lt_iff_toInt_lt, Int32.le_iff_toInt_le] at *; omega, rfl⟩⟩
theorem q_X7_othersLike {n : Nat} {sl : Nat × Nat} {kd : Nat → Nat × Nat} {I : Nat → Nat → Int32} {L : Nat → Nat → Int64} {Rf : Nat → Nat → Option Nat} (d : Nat) {i b c : Nat} (h : eb_shp n kd Rf i) (hc : I i 3 = nI c) (hc7 : c ≤ 7) (hb : b < 7) : eb_Q mX7_othersLike d [.ref i, .int (nI b)] (n, sl, kd, I, L, Rf) (eb_r (z_cnt (I (i + 2)) (I (i + 2) b) c) (n, sl, kd, I, L, Rf)) := by
  refine ep_meth pn_X.2.2.2.2.2.2.2.1 (Nat.le_of_ble_eq_true rfl) ?_
  show eb_P mX7_othersLike (d) 0 [(0, .ref i), (1, .int (nI b))] [] (n, sl, kd, I, L, Rf) _
  refine ep_iconst (v := (-1)) dX7_othersLike_0 (by decide) ?_
  refine ep_istore_n (l' := [(2, .int ((-1))), (0, .ref i), (1, .int (nI b))]) dX7_othersLike_1 rfl (by decide) rfl ?_
  refine ep_iconst (v := 0) dX7_othersLike_2 (by decide) ?_
  refine ep_istore_n (l' := [(3, .int 0), (2, .int ((-1))), (0, .ref i), (1, .int (nI b))]) dX7_othersLike_3 rfl (by decide) rfl ?_
  refine ep_eq (l2 := [(3, .int (nI 0)), (2, .int (z_cnt (I (i + 2)) (I (i + 2) b) 0)), (0, .ref i), (1, .int (nI b))]) (σ2 := (n, sl, kd, I, L, Rf)) rfl (by rw [nI_0]; rfl) rfl rfl ?_
  refine ep_for c (fun k (a : Unit) => ([(3, .int (nI k)), (2, .int (z_cnt (I (i + 2)) (I (i + 2) b) k)), (0, .ref i), (1, .int (nI b))], (n, sl, kd, I, L, Rf))) (fun k a => True) ?_ ?_ c 0 () (by omega) trivial
  · intro k a hk hinv ih
    show eb_P _ _ 4 [(3, .int (nI k)), (2, .int (z_cnt (I (i + 2)) (I (i + 2) b) k)), (0, .ref i), (1, .int (nI b))] [] (n, sl, kd, I, L, Rf) _
    refine ep_iload_n (i := 3) dX7_othersLike_4 rfl rfl ?_
    refine ep_aload_n (i := 0) dX7_othersLike_5 rfl rfl ?_
    refine ep_getI dX7_othersLike_6 flX7_25 h.i0 h.1 ?_
    refine ep_icmp_ge (tgt := 41) dX7_othersLike_9 (by decide) (fun c1 => absurd c1 (by rw [hc]; exact nI_ge hk (by omega))) (fun c1 => ?_)
    refine ep_iload_n (i := 2) dX7_othersLike_12 rfl rfl ?_
    refine ep_aload_n (i := 0) dX7_othersLike_13 rfl rfl ?_
    refine ep_getR dX7_othersLike_14 flX7_15 h.i0 h.1 h.2.2.2.2.2.1 ?_
    refine ep_iload_n (i := 3) dX7_othersLike_17 rfl rfl ?_
    refine ep_iaN dX7_othersLike_18 h.i2 h.2.2.1 (by omega) (by decide) ?_
    refine ep_aload_n (i := 0) dX7_othersLike_19 rfl rfl ?_
    refine ep_getR dX7_othersLike_20 flX7_15 h.i0 h.1 h.2.2.2.2.2.1 ?_
    refine ep_iload_n (i := 1) dX7_othersLike_23 rfl rfl ?_
    refine ep_iaN dX7_othersLike_24 h.i2 h.2.2.1 (by omega) (by decide) ?_
    refine ep_icmp_ne (tgt := 32) dX7_othersLike_25 (by decide) (fun c2 => ?_) (fun c2 => ?_)
    · skip
      refine ep_iconst (v := 0) dX7_othersLike_32 (by decide) ?_
      refine ep_iadd dX7_othersLike_33 ?_
      refine ep_istore_n (l' := [(2, .int ((z_cnt (I (i + 2)) (I (i + 2) b) k) + 0)), (3, .int (nI k)), (0, .ref i), (1, .int (nI b))]) dX7_othersLike_34 rfl (by decide) rfl ?_
      refine ep_iinc (v := (nI (k + 1))) (l' := [(3, .int ((nI (k + 1)))), (2, .int ((z_cnt (I (i + 2)) (I (i + 2) b) k) + 0)), (0, .ref i), (1, .int (nI b))]) dX7_othersLike_35 rfl (nI_1 _) (by decide) rfl ?_
      refine ep_goto (tgt := 4) dX7_othersLike_38 (by decide) ?_
      refine ep_eq (l2 := [(3, .int (nI (k + 1))), (2, .int (z_cnt (I (i + 2)) (I (i + 2) b) (k + 1))), (0, .ref i), (1, .int (nI b))]) rfl ?_ rfl rfl (ih () trivial)
      clear ih; simp_all [z_cnt]
    · skip
      refine ep_iconst (v := 1) dX7_othersLike_28 (by decide) ?_
      refine ep_goto (tgt := 33) dX7_othersLike_29 (by decide) ?_
      refine ep_iadd dX7_othersLike_33 ?_
      refine ep_istore_n (l' := [(2, .int ((z_cnt (I (i + 2)) (I (i + 2) b) k) + 1)), (3, .int (nI k)), (0, .ref i), (1, .int (nI b))]) dX7_othersLike_34 rfl (by decide) rfl ?_
      refine ep_iinc (v := (nI (k + 1))) (l' := [(3, .int ((nI (k + 1)))), (2, .int ((z_cnt (I (i + 2)) (I (i + 2) b) k) + 1)), (0, .ref i), (1, .int (nI b))]) dX7_othersLike_35 rfl (nI_1 _) (by decide) rfl ?_
      refine ep_goto (tgt := 4) dX7_othersLike_38 (by decide) ?_
      refine ep_eq (l2 := [(3, .int (nI (k + 1))), (2, .int (z_cnt (I (i + 2)) (I (i + 2) b) (k + 1))), (0, .ref i), (1, .int (nI b))]) rfl ?_ rfl rfl (ih () trivial)
      clear ih; simp_all [z_cnt]
  · intro a hinv
    show eb_P _ _ 4 [(3, .int (nI c)), (2, .int (z_cnt (I (i + 2)) (I (i + 2) b) c)), (0, .ref i), (1, .int (nI b))] [] (n, sl, kd, I, L, Rf) _
    refine ep_iload_n (i := 3) dX7_othersLike_4 rfl rfl ?_
    refine ep_aload_n (i := 0) dX7_othersLike_5 rfl rfl ?_
    refine ep_getI dX7_othersLike_6 flX7_25 h.i0 h.1 ?_
    refine ep_icmp_ge (tgt := 41) dX7_othersLike_9 (by decide) (fun c3 => ?_) (fun c3 => absurd (by rw [hc]; exact nI_le (Nat.le_refl _) (by omega)) c3)
    refine ep_iload_n (i := 2) dX7_othersLike_41 rfl rfl ?_
    refine ep_iret dX7_othersLike_42 rfl rfl ?_
    exact ⟨rfl, rfl⟩
theorem q_X7_gravityOfAll {n : Nat} {sl : Nat × Nat} {kd : Nat → Nat × Nat} {I : Nat → Nat → Int32} {L : Nat → Nat → Int64} {Rf : Nat → Nat → Option Nat} (d : Nat) {i c : Nat} (h : eb_shp n kd Rf i) (hc : I i 3 = nI c) (hc7 : c ≤ 7) : eb_Q mX7_gravityOfAll d [.ref i] (n, sl, kd, I, L, Rf) (eb_r (z_sum (I (i + 1)) c) (n, sl, kd, I, L, Rf)) := by
  refine ep_meth pn_X.2.2.2.2.2.2.2.1 (Nat.le_of_ble_eq_true rfl) ?_
  show eb_P mX7_gravityOfAll (d) 0 [(0, .ref i)] [] (n, sl, kd, I, L, Rf) _
  refine ep_iconst (v := 0) dX7_gravityOfAll_0 (by decide) ?_
  refine ep_istore_n (l' := [(1, .int 0), (0, .ref i)]) dX7_gravityOfAll_1 rfl (by decide) rfl ?_
  refine ep_iconst (v := 0) dX7_gravityOfAll_2 (by decide) ?_
  refine ep_istore_n (l' := [(2, .int 0), (1, .int 0), (0, .ref i)]) dX7_gravityOfAll_3 rfl (by decide) rfl ?_
  refine ep_eq (l2 := [(2, .int (nI 0)), (1, .int (z_sum (I (i + 1)) 0)), (0, .ref i)]) (σ2 := (n, sl, kd, I, L, Rf)) rfl (by rw [nI_0]; rfl) rfl rfl ?_
  refine ep_for c (fun k (a : Unit) => ([(2, .int (nI k)), (1, .int (z_sum (I (i + 1)) k)), (0, .ref i)], (n, sl, kd, I, L, Rf))) (fun k a => True) ?_ ?_ c 0 () (by omega) trivial
  · intro k a hk hinv ih
    show eb_P _ _ 4 [(2, .int (nI k)), (1, .int (z_sum (I (i + 1)) k)), (0, .ref i)] [] (n, sl, kd, I, L, Rf) _
    refine ep_iload_n (i := 2) dX7_gravityOfAll_4 rfl rfl ?_
    refine ep_aload_n (i := 0) dX7_gravityOfAll_5 rfl rfl ?_
    refine ep_getI dX7_gravityOfAll_6 flX7_25 h.i0 h.1 ?_
    refine ep_icmp_ge (tgt := 27) dX7_gravityOfAll_9 (by decide) (fun c1 => absurd c1 (by rw [hc]; exact nI_ge hk (by omega))) (fun c1 => ?_)
    refine ep_iload_n (i := 1) dX7_gravityOfAll_12 rfl rfl ?_
    refine ep_aload_n (i := 0) dX7_gravityOfAll_13 rfl rfl ?_
    refine ep_getR dX7_gravityOfAll_14 flX7_9 h.i0 h.1 h.2.2.2.2.1 ?_
    refine ep_iload_n (i := 2) dX7_gravityOfAll_17 rfl rfl ?_
    refine ep_iaN dX7_gravityOfAll_18 h.i1 h.2.1 (by omega) (by decide) ?_
    refine ep_iadd dX7_gravityOfAll_19 ?_
    refine ep_istore_n (l' := [(1, .int ((z_sum (I (i + 1)) k) + (I (i + 1) k))), (2, .int (nI k)), (0, .ref i)]) dX7_gravityOfAll_20 rfl (by decide) rfl ?_
    refine ep_iinc (v := (nI (k + 1))) (l' := [(2, .int ((nI (k + 1)))), (1, .int ((z_sum (I (i + 1)) k) + (I (i + 1) k))), (0, .ref i)]) dX7_gravityOfAll_21 rfl (nI_1 _) (by decide) rfl ?_
    refine ep_goto (tgt := 4) dX7_gravityOfAll_24 (by decide) ?_
    refine ep_eq (l2 := [(2, .int (nI (k + 1))), (1, .int (z_sum (I (i + 1)) (k + 1))), (0, .ref i)]) rfl ?_ rfl rfl (ih () trivial)
    clear ih; simp_all [z_sum]
  · intro a hinv
    show eb_P _ _ 4 [(2, .int (nI c)), (1, .int (z_sum (I (i + 1)) c)), (0, .ref i)] [] (n, sl, kd, I, L, Rf) _
    refine ep_iload_n (i := 2) dX7_gravityOfAll_4 rfl rfl ?_
    refine ep_aload_n (i := 0) dX7_gravityOfAll_5 rfl rfl ?_
    refine ep_getI dX7_gravityOfAll_6 flX7_25 h.i0 h.1 ?_
    refine ep_icmp_ge (tgt := 27) dX7_gravityOfAll_9 (by decide) (fun c2 => ?_) (fun c2 => absurd (by rw [hc]; exact nI_le (Nat.le_refl _) (by omega)) c2)
    refine ep_iload_n (i := 1) dX7_gravityOfAll_27 rfl rfl ?_
    refine ep_iret dX7_gravityOfAll_28 rfl rfl ?_
    exact ⟨rfl, rfl⟩
theorem q_X7_tell_ok {n : Nat} {sl : Nat × Nat} {kd : Nat → Nat × Nat} {I : Nat → Nat → Int32} {L : Nat → Nat → Int64} {Rf : Nat → Nat → Option Nat} (d : Nat) {i b c : Nat} (h : eb_shp n kd Rf i) (hc : I i 3 = nI c) (hc7 : c ≤ 7) (hb : b < c) {x : Int32} (hx : 0 ≤ x ∧ x ≤ 5) : eb_Q mX7_tell (d + 1) [.ref i, .int (nI b), .int x] (n, sl, kd, I, L, Rf) (fun r τ => τ = (n, sl, kd, z_set I (i + 2) b x, L, Rf) ∧ r = some (.int (if I (i + 2) b = x then -2 else 10 + I (i + 2) b))) := by
  refine ep_meth pn_X.2.2.2.2.2.2.2.1 (Nat.le_of_ble_eq_true rfl) ?_
  show eb_P mX7_tell (d + 1) 0 [(0, .ref i), (1, .int (nI b)), (2, .int x)] [] (n, sl, kd, I, L, Rf) _
  refine ep_aload_n (i := 0) dX7_tell_0 rfl rfl ?_
  refine ep_iload_n (i := 1) dX7_tell_1 rfl rfl ?_
  refine ep_callV (M1 := mX7_has) (rest := []) dX7_tell_2 mlX7_56 mvX7_has rfl h.i0 h.1 (Nat.le_of_ble_eq_true rfl) rfl (eb_b1 ⟨nI_pos' (by omega), by rw [hc]; exact nI_lt hb (by omega)⟩ (q_X7_has d h (nI b))) eb_rok ?_
  rintro _ _ ⟨rfl, rfl⟩
  show eb_P _ _ 5 [(0, .ref i), (1, .int (nI b)), (2, .int x)] (.int 1 :: []) _ _
  refine ep_if_eq (tgt := 17) dX7_tell_5 (by decide) (fun c1 => absurd c1 (by decide)) (fun c1 => ?_)
  refine ep_iload_n (i := 2) dX7_tell_8 rfl rfl ?_
  refine ep_iconst (v := 0) dX7_tell_9 (by decide) ?_
  refine ep_iconst (v := 5) dX7_tell_10 (by decide) ?_
  refine ep_callS (M1 := mX10_within) (rest := []) dX7_tell_11 mlX7_60 msX10_within rfl (Nat.le_of_ble_eq_true rfl) rfl (eb_b1 hx (q_X10_within d x 0 5 (n, sl, kd, I, L, Rf))) eb_rok ?_
  rintro _ _ ⟨rfl, rfl⟩
  show eb_P _ _ 14 [(0, .ref i), (1, .int (nI b)), (2, .int x)] (.int 1 :: []) _ _
  refine ep_if_ne (tgt := 19) dX7_tell_14 (by decide) (fun c2 => ?_) (fun c2 => absurd (by decide) c2)
  refine ep_aload_n (i := 0) dX7_tell_19 rfl rfl ?_
  refine ep_getR dX7_tell_20 flX7_15 h.i0 h.1 h.2.2.2.2.2.1 ?_
  refine ep_iload_n (i := 1) dX7_tell_23 rfl rfl ?_
  refine ep_iaN dX7_tell_24 h.i2 h.2.2.1 (by omega) (by decide) ?_
  refine ep_istore_n (l' := [(3, .int (I (i + 2) b)), (0, .ref i), (1, .int (nI b)), (2, .int x)]) dX7_tell_25 rfl (by decide) rfl ?_
  refine ep_aload_n (i := 0) dX7_tell_26 rfl rfl ?_
  refine ep_getR dX7_tell_27 flX7_15 h.i0 h.1 h.2.2.2.2.2.1 ?_
  refine ep_iload_n (i := 1) dX7_tell_30 rfl rfl ?_
  refine ep_iload_n (i := 2) dX7_tell_31 rfl rfl ?_
  refine ep_isN dX7_tell_32 h.i2 (by have := h.x; omega) h.2.2.1 (by omega) (by decide) ?_
  refine ep_nmI (fun I3 hI3 => ?_)
  refine ep_iload_n (i := 3) dX7_tell_33 rfl rfl ?_
  refine ep_iload_n (i := 2) dX7_tell_34 rfl rfl ?_
  refine ep_icmp_ne (tgt := 43) dX7_tell_35 (by decide) (fun c4 => ?_) (fun c4 => ?_)
  · skip
    refine ep_bipush (v := 10) dX7_tell_43 (by decide) ?_
    refine ep_iload_n (i := 3) dX7_tell_45 rfl rfl ?_
    refine ep_iadd dX7_tell_46 ?_
    refine ep_iret dX7_tell_47 rfl rfl ?_
    exact ⟨by simp_all, by simp_all⟩
  · skip
    refine ep_bipush (v := (-2)) dX7_tell_38 (by decide) ?_
    refine ep_goto (tgt := 47) dX7_tell_40 (by decide) ?_
    refine ep_iret dX7_tell_47 rfl rfl ?_
    exact ⟨by simp_all, by simp_all⟩
theorem q_X7_tell_no {n : Nat} {sl : Nat × Nat} {kd : Nat → Nat × Nat} {I : Nat → Nat → Int32} {L : Nat → Nat → Int64} {Rf : Nat → Nat → Option Nat} (d : Nat) {i : Nat} (h : eb_shp n kd Rf i) (b : Int32) (hno : ¬ (0 ≤ b ∧ b < I i 3)) (x : Int32) : eb_Q mX7_tell (d + 1) [.ref i, .int b, .int x] (n, sl, kd, I, L, Rf) (eb_r (-1) (n, sl, kd, I, L, Rf)) := by
  refine ep_meth pn_X.2.2.2.2.2.2.2.1 (Nat.le_of_ble_eq_true rfl) ?_
  show eb_P mX7_tell (d + 1) 0 [(0, .ref i), (1, .int b), (2, .int x)] [] (n, sl, kd, I, L, Rf) _
  refine ep_aload_n (i := 0) dX7_tell_0 rfl rfl ?_
  refine ep_iload_n (i := 1) dX7_tell_1 rfl rfl ?_
  refine ep_callV (M1 := mX7_has) (rest := []) dX7_tell_2 mlX7_56 mvX7_has rfl h.i0 h.1 (Nat.le_of_ble_eq_true rfl) rfl (eb_b0 hno (q_X7_has d h b)) eb_rok ?_
  rintro _ _ ⟨rfl, rfl⟩
  show eb_P _ _ 5 [(0, .ref i), (1, .int b), (2, .int x)] (.int 0 :: []) _ _
  refine ep_if_eq (tgt := 17) dX7_tell_5 (by decide) (fun c1 => ?_) (fun c1 => absurd (by decide) c1)
  refine ep_iconst (v := (-1)) dX7_tell_17 (by decide) ?_
  refine ep_iret dX7_tell_18 rfl rfl ?_
  exact ⟨rfl, rfl⟩
theorem q_X7_tell_nx {n : Nat} {sl : Nat × Nat} {kd : Nat → Nat × Nat} {I : Nat → Nat → Int32} {L : Nat → Nat → Int64} {Rf : Nat → Nat → Option Nat} (d : Nat) {i b c : Nat} (h : eb_shp n kd Rf i) (hc : I i 3 = nI c) (hc7 : c ≤ 7) (hb : b < c) {x : Int32} (hx : ¬ (0 ≤ x ∧ x ≤ 5)) : eb_Q mX7_tell (d + 1) [.ref i, .int (nI b), .int x] (n, sl, kd, I, L, Rf) (eb_r (-1) (n, sl, kd, I, L, Rf)) := by
  refine ep_meth pn_X.2.2.2.2.2.2.2.1 (Nat.le_of_ble_eq_true rfl) ?_
  show eb_P mX7_tell (d + 1) 0 [(0, .ref i), (1, .int (nI b)), (2, .int x)] [] (n, sl, kd, I, L, Rf) _
  refine ep_aload_n (i := 0) dX7_tell_0 rfl rfl ?_
  refine ep_iload_n (i := 1) dX7_tell_1 rfl rfl ?_
  refine ep_callV (M1 := mX7_has) (rest := []) dX7_tell_2 mlX7_56 mvX7_has rfl h.i0 h.1 (Nat.le_of_ble_eq_true rfl) rfl (eb_b1 ⟨nI_pos' (by omega), by rw [hc]; exact nI_lt hb (by omega)⟩ (q_X7_has d h (nI b))) eb_rok ?_
  rintro _ _ ⟨rfl, rfl⟩
  show eb_P _ _ 5 [(0, .ref i), (1, .int (nI b)), (2, .int x)] (.int 1 :: []) _ _
  refine ep_if_eq (tgt := 17) dX7_tell_5 (by decide) (fun c1 => absurd c1 (by decide)) (fun c1 => ?_)
  refine ep_iload_n (i := 2) dX7_tell_8 rfl rfl ?_
  refine ep_iconst (v := 0) dX7_tell_9 (by decide) ?_
  refine ep_iconst (v := 5) dX7_tell_10 (by decide) ?_
  refine ep_callS (M1 := mX10_within) (rest := []) dX7_tell_11 mlX7_60 msX10_within rfl (Nat.le_of_ble_eq_true rfl) rfl (eb_b0 hx (q_X10_within d x 0 5 (n, sl, kd, I, L, Rf))) eb_rok ?_
  rintro _ _ ⟨rfl, rfl⟩
  show eb_P _ _ 14 [(0, .ref i), (1, .int (nI b)), (2, .int x)] (.int 0 :: []) _ _
  refine ep_if_ne (tgt := 19) dX7_tell_14 (by decide) (fun c2 => absurd c2 (by decide)) (fun c2 => ?_)
  refine ep_iconst (v := (-1)) dX7_tell_17 (by decide) ?_
  refine ep_iret dX7_tell_18 rfl rfl ?_
  exact ⟨rfl, rfl⟩
theorem q_X7_move_ok {n : Nat} {sl : Nat × Nat} {kd : Nat → Nat × Nat} {I : Nat → Nat → Int32} {L : Nat → Nat → Int64} {Rf : Nat → Nat → Option Nat} (d : Nat) {i b c : Nat} (h : eb_shp n kd Rf i) (hc : I i 3 = nI c) (hc7 : c ≤ 7) (hb : b < c) {x : Int32} (hx : (-5) ≤ x ∧ x ≤ 5) : eb_Q mX7_move (d + 1) [.ref i, .int (nI b), .int x] (n, sl, kd, I, L, Rf) (fun r τ => τ = (n, sl, kd, z_set I (i + 3) b x, L, Rf) ∧ r = some (.int (if (if 0 ≤ x - I (i + 3) b then x - I (i + 3) b else 0 - (x - I (i + 3) b)) = 0 then -2 else (if 0 ≤ x - I (i + 3) b then x - I (i + 3) b else 0 - (x - I (i + 3) b))))) := by
  refine ep_meth pn_X.2.2.2.2.2.2.2.1 (Nat.le_of_ble_eq_true rfl) ?_
  show eb_P mX7_move (d + 1) 0 [(0, .ref i), (1, .int (nI b)), (2, .int x)] [] (n, sl, kd, I, L, Rf) _
  refine ep_aload_n (i := 0) dX7_move_0 rfl rfl ?_
  refine ep_iload_n (i := 1) dX7_move_1 rfl rfl ?_
  refine ep_callV (M1 := mX7_has) (rest := []) dX7_move_2 mlX7_56 mvX7_has rfl h.i0 h.1 (Nat.le_of_ble_eq_true rfl) rfl (eb_b1 ⟨nI_pos' (by omega), by rw [hc]; exact nI_lt hb (by omega)⟩ (q_X7_has d h (nI b))) eb_rok ?_
  rintro _ _ ⟨rfl, rfl⟩
  show eb_P _ _ 5 [(0, .ref i), (1, .int (nI b)), (2, .int x)] (.int 1 :: []) _ _
  refine ep_if_eq (tgt := 18) dX7_move_5 (by decide) (fun c1 => absurd c1 (by decide)) (fun c1 => ?_)
  refine ep_iload_n (i := 2) dX7_move_8 rfl rfl ?_
  refine ep_bipush (v := (-5)) dX7_move_9 (by decide) ?_
  refine ep_iconst (v := 5) dX7_move_11 (by decide) ?_
  refine ep_callS (M1 := mX10_within) (rest := []) dX7_move_12 mlX7_60 msX10_within rfl (Nat.le_of_ble_eq_true rfl) rfl (eb_b1 hx (q_X10_within d x (-5) 5 (n, sl, kd, I, L, Rf))) eb_rok ?_
  rintro _ _ ⟨rfl, rfl⟩
  show eb_P _ _ 15 [(0, .ref i), (1, .int (nI b)), (2, .int x)] (.int 1 :: []) _ _
  refine ep_if_ne (tgt := 20) dX7_move_15 (by decide) (fun c2 => ?_) (fun c2 => absurd (by decide) c2)
  refine ep_iload_n (i := 2) dX7_move_20 rfl rfl ?_
  refine ep_aload_n (i := 0) dX7_move_21 rfl rfl ?_
  refine ep_getR dX7_move_22 flX7_18 h.i0 h.1 h.2.2.2.2.2.2.1 ?_
  refine ep_iload_n (i := 1) dX7_move_25 rfl rfl ?_
  refine ep_iaN dX7_move_26 h.i3 h.2.2.2.1 (by omega) (by decide) ?_
  refine ep_isub dX7_move_27 ?_
  refine ep_abs dX7_move_28 xmX7_64 (Nat.le_of_ble_eq_true rfl) ?_
  refine ep_istore_n (l' := [(3, .int (if 0 ≤ x - (I (i + 3) b) then x - (I (i + 3) b) else 0 - (x - (I (i + 3) b)))), (0, .ref i), (1, .int (nI b)), (2, .int x)]) dX7_move_31 rfl (by decide) rfl ?_
  refine ep_aload_n (i := 0) dX7_move_32 rfl rfl ?_
  refine ep_getR dX7_move_33 flX7_18 h.i0 h.1 h.2.2.2.2.2.2.1 ?_
  refine ep_iload_n (i := 1) dX7_move_36 rfl rfl ?_
  refine ep_iload_n (i := 2) dX7_move_37 rfl rfl ?_
  refine ep_isN dX7_move_38 h.i3 (by have := h.x; omega) h.2.2.2.1 (by omega) (by decide) ?_
  refine ep_nmI (fun I3 hI3 => ?_)
  refine ep_iload_n (i := 3) dX7_move_39 rfl rfl ?_
  refine ep_if_ne (tgt := 48) dX7_move_40 (by decide) (fun c4 => ?_) (fun c4 => ?_)
  · skip
    refine ep_iload_n (i := 3) dX7_move_48 rfl rfl ?_
    refine ep_iret dX7_move_49 rfl rfl ?_
    exact ⟨by simp_all, by simp_all⟩
  · skip
    refine ep_bipush (v := (-2)) dX7_move_43 (by decide) ?_
    refine ep_goto (tgt := 49) dX7_move_45 (by decide) ?_
    refine ep_iret dX7_move_49 rfl rfl ?_
    exact ⟨by simp_all, by simp_all⟩
theorem q_X7_move_no {n : Nat} {sl : Nat × Nat} {kd : Nat → Nat × Nat} {I : Nat → Nat → Int32} {L : Nat → Nat → Int64} {Rf : Nat → Nat → Option Nat} (d : Nat) {i : Nat} (h : eb_shp n kd Rf i) (b : Int32) (hno : ¬ (0 ≤ b ∧ b < I i 3)) (x : Int32) : eb_Q mX7_move (d + 1) [.ref i, .int b, .int x] (n, sl, kd, I, L, Rf) (eb_r (-1) (n, sl, kd, I, L, Rf)) := by
  refine ep_meth pn_X.2.2.2.2.2.2.2.1 (Nat.le_of_ble_eq_true rfl) ?_
  show eb_P mX7_move (d + 1) 0 [(0, .ref i), (1, .int b), (2, .int x)] [] (n, sl, kd, I, L, Rf) _
  refine ep_aload_n (i := 0) dX7_move_0 rfl rfl ?_
  refine ep_iload_n (i := 1) dX7_move_1 rfl rfl ?_
  refine ep_callV (M1 := mX7_has) (rest := []) dX7_move_2 mlX7_56 mvX7_has rfl h.i0 h.1 (Nat.le_of_ble_eq_true rfl) rfl (eb_b0 hno (q_X7_has d h b)) eb_rok ?_
  rintro _ _ ⟨rfl, rfl⟩
  show eb_P _ _ 5 [(0, .ref i), (1, .int b), (2, .int x)] (.int 0 :: []) _ _
  refine ep_if_eq (tgt := 18) dX7_move_5 (by decide) (fun c1 => ?_) (fun c1 => absurd (by decide) c1)
  refine ep_iconst (v := (-1)) dX7_move_18 (by decide) ?_
  refine ep_iret dX7_move_19 rfl rfl ?_
  exact ⟨rfl, rfl⟩
theorem q_X7_move_nx {n : Nat} {sl : Nat × Nat} {kd : Nat → Nat × Nat} {I : Nat → Nat → Int32} {L : Nat → Nat → Int64} {Rf : Nat → Nat → Option Nat} (d : Nat) {i b c : Nat} (h : eb_shp n kd Rf i) (hc : I i 3 = nI c) (hc7 : c ≤ 7) (hb : b < c) {x : Int32} (hx : ¬ ((-5) ≤ x ∧ x ≤ 5)) : eb_Q mX7_move (d + 1) [.ref i, .int (nI b), .int x] (n, sl, kd, I, L, Rf) (eb_r (-1) (n, sl, kd, I, L, Rf)) := by
  refine ep_meth pn_X.2.2.2.2.2.2.2.1 (Nat.le_of_ble_eq_true rfl) ?_
  show eb_P mX7_move (d + 1) 0 [(0, .ref i), (1, .int (nI b)), (2, .int x)] [] (n, sl, kd, I, L, Rf) _
  refine ep_aload_n (i := 0) dX7_move_0 rfl rfl ?_
  refine ep_iload_n (i := 1) dX7_move_1 rfl rfl ?_
  refine ep_callV (M1 := mX7_has) (rest := []) dX7_move_2 mlX7_56 mvX7_has rfl h.i0 h.1 (Nat.le_of_ble_eq_true rfl) rfl (eb_b1 ⟨nI_pos' (by omega), by rw [hc]; exact nI_lt hb (by omega)⟩ (q_X7_has d h (nI b))) eb_rok ?_
  rintro _ _ ⟨rfl, rfl⟩
  show eb_P _ _ 5 [(0, .ref i), (1, .int (nI b)), (2, .int x)] (.int 1 :: []) _ _
  refine ep_if_eq (tgt := 18) dX7_move_5 (by decide) (fun c1 => absurd c1 (by decide)) (fun c1 => ?_)
  refine ep_iload_n (i := 2) dX7_move_8 rfl rfl ?_
  refine ep_bipush (v := (-5)) dX7_move_9 (by decide) ?_
  refine ep_iconst (v := 5) dX7_move_11 (by decide) ?_
  refine ep_callS (M1 := mX10_within) (rest := []) dX7_move_12 mlX7_60 msX10_within rfl (Nat.le_of_ble_eq_true rfl) rfl (eb_b0 hx (q_X10_within d x (-5) 5 (n, sl, kd, I, L, Rf))) eb_rok ?_
  rintro _ _ ⟨rfl, rfl⟩
  show eb_P _ _ 15 [(0, .ref i), (1, .int (nI b)), (2, .int x)] (.int 0 :: []) _ _
  refine ep_if_ne (tgt := 20) dX7_move_15 (by decide) (fun c2 => absurd c2 (by decide)) (fun c2 => ?_)
  refine ep_iconst (v := (-1)) dX7_move_18 (by decide) ?_
  refine ep_iret dX7_move_19 rfl rfl ?_
  exact ⟨rfl, rfl⟩
theorem q_X7_ease_ok {n : Nat} {sl : Nat × Nat} {kd : Nat → Nat × Nat} {I : Nat → Nat → Int32} {L : Nat → Nat → Int64} {Rf : Nat → Nat → Option Nat} (d : Nat) {i b c : Nat} (h : eb_shp n kd Rf i) (hc : I i 3 = nI c) (hc7 : c ≤ 7) (hb : b < c) (hz : I (i + 1) b ≠ 0) : eb_Q mX7_ease (d + 1) [.ref i, .int (nI b)] (n, sl, kd, I, L, Rf) (fun r τ => τ = (n, sl, kd, z_set I (i + 1) b (I (i + 1) b - 1), L, Rf) ∧ r = some (.int (I (i + 1) b - 1))) := by
  refine ep_meth pn_X.2.2.2.2.2.2.2.1 (Nat.le_of_ble_eq_true rfl) ?_
  show eb_P mX7_ease (d + 1) 0 [(0, .ref i), (1, .int (nI b))] [] (n, sl, kd, I, L, Rf) _
  refine ep_aload_n (i := 0) dX7_ease_0 rfl rfl ?_
  refine ep_iload_n (i := 1) dX7_ease_1 rfl rfl ?_
  refine ep_callV (M1 := mX7_has) (rest := []) dX7_ease_2 mlX7_56 mvX7_has rfl h.i0 h.1 (Nat.le_of_ble_eq_true rfl) rfl (eb_b1 ⟨nI_pos' (by omega), by rw [hc]; exact nI_lt hb (by omega)⟩ (q_X7_has d h (nI b))) eb_rok ?_
  rintro _ _ ⟨rfl, rfl⟩
  show eb_P _ _ 5 [(0, .ref i), (1, .int (nI b))] (.int 1 :: []) _ _
  refine ep_if_ne (tgt := 10) dX7_ease_5 (by decide) (fun c1 => ?_) (fun c1 => absurd (by decide) c1)
  refine ep_aload_n (i := 0) dX7_ease_10 rfl rfl ?_
  refine ep_getR dX7_ease_11 flX7_9 h.i0 h.1 h.2.2.2.2.1 ?_
  refine ep_iload_n (i := 1) dX7_ease_14 rfl rfl ?_
  refine ep_iaN dX7_ease_15 h.i1 h.2.1 (by omega) (by decide) ?_
  refine ep_if_ne (tgt := 22) dX7_ease_16 (by decide) (fun c2 => ?_) (fun c2 => absurd hz c2)
  refine ep_aload_n (i := 0) dX7_ease_22 rfl rfl ?_
  refine ep_getR dX7_ease_23 flX7_9 h.i0 h.1 h.2.2.2.2.1 ?_
  refine ep_iload_n (i := 1) dX7_ease_26 rfl rfl ?_
  refine ep_dup2 dX7_ease_27 rfl rfl ?_
  refine ep_iaN dX7_ease_28 h.i1 h.2.1 (by omega) (by decide) ?_
  refine ep_iconst (v := 1) dX7_ease_29 (by decide) ?_
  refine ep_isub dX7_ease_30 ?_
  refine ep_isN dX7_ease_31 h.i1 (by have := h.x; omega) h.2.1 (by omega) (by decide) ?_
  refine ep_nmI (fun I3 hI3 => ?_)
  refine ep_aload_n (i := 0) dX7_ease_32 rfl rfl ?_
  refine ep_getR dX7_ease_33 flX7_9 h.i0 h.1 h.2.2.2.2.1 ?_
  refine ep_iload_n (i := 1) dX7_ease_36 rfl rfl ?_
  refine ep_iaN dX7_ease_37 h.i1 h.2.1 (by omega) (by decide) ?_
  refine ep_iret dX7_ease_38 rfl rfl ?_
  exact ⟨by simp_all, by simp_all [z_set]⟩
theorem q_X7_ease_nz {n : Nat} {sl : Nat × Nat} {kd : Nat → Nat × Nat} {I : Nat → Nat → Int32} {L : Nat → Nat → Int64} {Rf : Nat → Nat → Option Nat} (d : Nat) {i b c : Nat} (h : eb_shp n kd Rf i) (hc : I i 3 = nI c) (hc7 : c ≤ 7) (hb : b < c) (hz : I (i + 1) b = 0) : eb_Q mX7_ease (d + 1) [.ref i, .int (nI b)] (n, sl, kd, I, L, Rf) (eb_r (-2) (n, sl, kd, I, L, Rf)) := by
  refine ep_meth pn_X.2.2.2.2.2.2.2.1 (Nat.le_of_ble_eq_true rfl) ?_
  show eb_P mX7_ease (d + 1) 0 [(0, .ref i), (1, .int (nI b))] [] (n, sl, kd, I, L, Rf) _
  refine ep_aload_n (i := 0) dX7_ease_0 rfl rfl ?_
  refine ep_iload_n (i := 1) dX7_ease_1 rfl rfl ?_
  refine ep_callV (M1 := mX7_has) (rest := []) dX7_ease_2 mlX7_56 mvX7_has rfl h.i0 h.1 (Nat.le_of_ble_eq_true rfl) rfl (eb_b1 ⟨nI_pos' (by omega), by rw [hc]; exact nI_lt hb (by omega)⟩ (q_X7_has d h (nI b))) eb_rok ?_
  rintro _ _ ⟨rfl, rfl⟩
  show eb_P _ _ 5 [(0, .ref i), (1, .int (nI b))] (.int 1 :: []) _ _
  refine ep_if_ne (tgt := 10) dX7_ease_5 (by decide) (fun c1 => ?_) (fun c1 => absurd (by decide) c1)
  refine ep_aload_n (i := 0) dX7_ease_10 rfl rfl ?_
  refine ep_getR dX7_ease_11 flX7_9 h.i0 h.1 h.2.2.2.2.1 ?_
  refine ep_iload_n (i := 1) dX7_ease_14 rfl rfl ?_
  refine ep_iaN dX7_ease_15 h.i1 h.2.1 (by omega) (by decide) ?_
  refine ep_if_ne (tgt := 22) dX7_ease_16 (by decide) (fun c2 => absurd c2 (fun g => g hz)) (fun c2 => ?_)
  refine ep_bipush (v := (-2)) dX7_ease_19 (by decide) ?_
  refine ep_iret dX7_ease_21 rfl rfl ?_
  exact ⟨rfl, rfl⟩
theorem q_X7_ease_no {n : Nat} {sl : Nat × Nat} {kd : Nat → Nat × Nat} {I : Nat → Nat → Int32} {L : Nat → Nat → Int64} {Rf : Nat → Nat → Option Nat} (d : Nat) {i : Nat} (h : eb_shp n kd Rf i) (b : Int32) (hno : ¬ (0 ≤ b ∧ b < I i 3))  : eb_Q mX7_ease (d + 1) [.ref i, .int b] (n, sl, kd, I, L, Rf) (eb_r (-1) (n, sl, kd, I, L, Rf)) := by
  refine ep_meth pn_X.2.2.2.2.2.2.2.1 (Nat.le_of_ble_eq_true rfl) ?_
  show eb_P mX7_ease (d + 1) 0 [(0, .ref i), (1, .int b)] [] (n, sl, kd, I, L, Rf) _
  refine ep_aload_n (i := 0) dX7_ease_0 rfl rfl ?_
  refine ep_iload_n (i := 1) dX7_ease_1 rfl rfl ?_
  refine ep_callV (M1 := mX7_has) (rest := []) dX7_ease_2 mlX7_56 mvX7_has rfl h.i0 h.1 (Nat.le_of_ble_eq_true rfl) rfl (eb_b0 hno (q_X7_has d h b)) eb_rok ?_
  rintro _ _ ⟨rfl, rfl⟩
  show eb_P _ _ 5 [(0, .ref i), (1, .int b)] (.int 0 :: []) _ _
  refine ep_if_ne (tgt := 10) dX7_ease_5 (by decide) (fun c1 => absurd c1 (by decide)) (fun c1 => ?_)
  refine ep_iconst (v := (-1)) dX7_ease_8 (by decide) ?_
  refine ep_iret dX7_ease_9 rfl rfl ?_
  exact ⟨rfl, rfl⟩
theorem q_X7_preach_ok {n : Nat} {sl : Nat × Nat} {kd : Nat → Nat × Nat} {I : Nat → Nat → Int32} {L : Nat → Nat → Int64} {Rf : Nat → Nat → Option Nat} (d : Nat) {i b c : Nat} (h : eb_shp n kd Rf i) (hc : I i 3 = nI c) (hc7 : c ≤ 7) (hb : b < c) {x : Int32} (hx : 1 ≤ x ∧ x ≤ 9) (hz : I (i + 1) b ≠ 9) : eb_Q mX7_preach (d + 1) [.ref i, .int (nI b), .int x] (n, sl, kd, I, L, Rf) (fun r τ => τ = (n, sl, kd, z_set I (i + 1) b (if 9 < I (i + 1) b + x then 9 else I (i + 1) b + x), L, Rf) ∧ r = some (.int (if 9 < I (i + 1) b + x then 9 else I (i + 1) b + x))) := by
  refine ep_meth pn_X.2.2.2.2.2.2.2.1 (Nat.le_of_ble_eq_true rfl) ?_
  show eb_P mX7_preach (d + 1) 0 [(0, .ref i), (1, .int (nI b)), (2, .int x)] [] (n, sl, kd, I, L, Rf) _
  refine ep_aload_n (i := 0) dX7_preach_0 rfl rfl ?_
  refine ep_iload_n (i := 1) dX7_preach_1 rfl rfl ?_
  refine ep_callV (M1 := mX7_has) (rest := []) dX7_preach_2 mlX7_56 mvX7_has rfl h.i0 h.1 (Nat.le_of_ble_eq_true rfl) rfl (eb_b1 ⟨nI_pos' (by omega), by rw [hc]; exact nI_lt hb (by omega)⟩ (q_X7_has d h (nI b))) eb_rok ?_
  rintro _ _ ⟨rfl, rfl⟩
  show eb_P _ _ 5 [(0, .ref i), (1, .int (nI b)), (2, .int x)] (.int 1 :: []) _ _
  refine ep_if_eq (tgt := 18) dX7_preach_5 (by decide) (fun c1 => absurd c1 (by decide)) (fun c1 => ?_)
  refine ep_iload_n (i := 2) dX7_preach_8 rfl rfl ?_
  refine ep_iconst (v := 1) dX7_preach_9 (by decide) ?_
  refine ep_bipush (v := 9) dX7_preach_10 (by decide) ?_
  refine ep_callS (M1 := mX10_within) (rest := []) dX7_preach_12 mlX7_60 msX10_within rfl (Nat.le_of_ble_eq_true rfl) rfl (eb_b1 hx (q_X10_within d x 1 9 (n, sl, kd, I, L, Rf))) eb_rok ?_
  rintro _ _ ⟨rfl, rfl⟩
  show eb_P _ _ 15 [(0, .ref i), (1, .int (nI b)), (2, .int x)] (.int 1 :: []) _ _
  refine ep_if_ne (tgt := 20) dX7_preach_15 (by decide) (fun c2 => ?_) (fun c2 => absurd (by decide) c2)
  refine ep_aload_n (i := 0) dX7_preach_20 rfl rfl ?_
  refine ep_getR dX7_preach_21 flX7_9 h.i0 h.1 h.2.2.2.2.1 ?_
  refine ep_iload_n (i := 1) dX7_preach_24 rfl rfl ?_
  refine ep_iaN dX7_preach_25 h.i1 h.2.1 (by omega) (by decide) ?_
  refine ep_bipush (v := 9) dX7_preach_26 (by decide) ?_
  refine ep_icmp_ne (tgt := 34) dX7_preach_28 (by decide) (fun c3 => ?_) (fun c3 => absurd hz c3)
  refine ep_aload_n (i := 0) dX7_preach_34 rfl rfl ?_
  refine ep_getR dX7_preach_35 flX7_9 h.i0 h.1 h.2.2.2.2.1 ?_
  refine ep_iload_n (i := 1) dX7_preach_38 rfl rfl ?_
  refine ep_aload_n (i := 0) dX7_preach_39 rfl rfl ?_
  refine ep_getR dX7_preach_40 flX7_9 h.i0 h.1 h.2.2.2.2.1 ?_
  refine ep_iload_n (i := 1) dX7_preach_43 rfl rfl ?_
  refine ep_iaN dX7_preach_44 h.i1 h.2.1 (by omega) (by decide) ?_
  refine ep_iload_n (i := 2) dX7_preach_45 rfl rfl ?_
  refine ep_iadd dX7_preach_46 ?_
  refine ep_bipush (v := 9) dX7_preach_47 (by decide) ?_
  refine ep_min dX7_preach_49 xmX7_69 (Nat.le_of_ble_eq_true rfl) ?_
  refine ep_isN dX7_preach_52 h.i1 (by have := h.x; omega) h.2.1 (by omega) (by decide) ?_
  refine ep_nmI (fun I4 hI4 => ?_)
  refine ep_aload_n (i := 0) dX7_preach_53 rfl rfl ?_
  refine ep_getR dX7_preach_54 flX7_9 h.i0 h.1 h.2.2.2.2.1 ?_
  refine ep_iload_n (i := 1) dX7_preach_57 rfl rfl ?_
  refine ep_iaN dX7_preach_58 h.i1 h.2.1 (by omega) (by decide) ?_
  refine ep_iret dX7_preach_59 rfl rfl ?_
  exact ⟨by simp_all, by simp_all [z_set]⟩
theorem q_X7_preach_nz {n : Nat} {sl : Nat × Nat} {kd : Nat → Nat × Nat} {I : Nat → Nat → Int32} {L : Nat → Nat → Int64} {Rf : Nat → Nat → Option Nat} (d : Nat) {i b c : Nat} (h : eb_shp n kd Rf i) (hc : I i 3 = nI c) (hc7 : c ≤ 7) (hb : b < c) {x : Int32} (hx : 1 ≤ x ∧ x ≤ 9) (hz : I (i + 1) b = 9) : eb_Q mX7_preach (d + 1) [.ref i, .int (nI b), .int x] (n, sl, kd, I, L, Rf) (eb_r (-2) (n, sl, kd, I, L, Rf)) := by
  refine ep_meth pn_X.2.2.2.2.2.2.2.1 (Nat.le_of_ble_eq_true rfl) ?_
  show eb_P mX7_preach (d + 1) 0 [(0, .ref i), (1, .int (nI b)), (2, .int x)] [] (n, sl, kd, I, L, Rf) _
  refine ep_aload_n (i := 0) dX7_preach_0 rfl rfl ?_
  refine ep_iload_n (i := 1) dX7_preach_1 rfl rfl ?_
  refine ep_callV (M1 := mX7_has) (rest := []) dX7_preach_2 mlX7_56 mvX7_has rfl h.i0 h.1 (Nat.le_of_ble_eq_true rfl) rfl (eb_b1 ⟨nI_pos' (by omega), by rw [hc]; exact nI_lt hb (by omega)⟩ (q_X7_has d h (nI b))) eb_rok ?_
  rintro _ _ ⟨rfl, rfl⟩
  show eb_P _ _ 5 [(0, .ref i), (1, .int (nI b)), (2, .int x)] (.int 1 :: []) _ _
  refine ep_if_eq (tgt := 18) dX7_preach_5 (by decide) (fun c1 => absurd c1 (by decide)) (fun c1 => ?_)
  refine ep_iload_n (i := 2) dX7_preach_8 rfl rfl ?_
  refine ep_iconst (v := 1) dX7_preach_9 (by decide) ?_
  refine ep_bipush (v := 9) dX7_preach_10 (by decide) ?_
  refine ep_callS (M1 := mX10_within) (rest := []) dX7_preach_12 mlX7_60 msX10_within rfl (Nat.le_of_ble_eq_true rfl) rfl (eb_b1 hx (q_X10_within d x 1 9 (n, sl, kd, I, L, Rf))) eb_rok ?_
  rintro _ _ ⟨rfl, rfl⟩
  show eb_P _ _ 15 [(0, .ref i), (1, .int (nI b)), (2, .int x)] (.int 1 :: []) _ _
  refine ep_if_ne (tgt := 20) dX7_preach_15 (by decide) (fun c2 => ?_) (fun c2 => absurd (by decide) c2)
  refine ep_aload_n (i := 0) dX7_preach_20 rfl rfl ?_
  refine ep_getR dX7_preach_21 flX7_9 h.i0 h.1 h.2.2.2.2.1 ?_
  refine ep_iload_n (i := 1) dX7_preach_24 rfl rfl ?_
  refine ep_iaN dX7_preach_25 h.i1 h.2.1 (by omega) (by decide) ?_
  refine ep_bipush (v := 9) dX7_preach_26 (by decide) ?_
  refine ep_icmp_ne (tgt := 34) dX7_preach_28 (by decide) (fun c3 => absurd c3 (fun g => g hz)) (fun c3 => ?_)
  refine ep_bipush (v := (-2)) dX7_preach_31 (by decide) ?_
  refine ep_iret dX7_preach_33 rfl rfl ?_
  exact ⟨rfl, rfl⟩
theorem q_X7_preach_no {n : Nat} {sl : Nat × Nat} {kd : Nat → Nat × Nat} {I : Nat → Nat → Int32} {L : Nat → Nat → Int64} {Rf : Nat → Nat → Option Nat} (d : Nat) {i : Nat} (h : eb_shp n kd Rf i) (b : Int32) (hno : ¬ (0 ≤ b ∧ b < I i 3)) (x : Int32) : eb_Q mX7_preach (d + 1) [.ref i, .int b, .int x] (n, sl, kd, I, L, Rf) (eb_r (-1) (n, sl, kd, I, L, Rf)) := by
  refine ep_meth pn_X.2.2.2.2.2.2.2.1 (Nat.le_of_ble_eq_true rfl) ?_
  show eb_P mX7_preach (d + 1) 0 [(0, .ref i), (1, .int b), (2, .int x)] [] (n, sl, kd, I, L, Rf) _
  refine ep_aload_n (i := 0) dX7_preach_0 rfl rfl ?_
  refine ep_iload_n (i := 1) dX7_preach_1 rfl rfl ?_
  refine ep_callV (M1 := mX7_has) (rest := []) dX7_preach_2 mlX7_56 mvX7_has rfl h.i0 h.1 (Nat.le_of_ble_eq_true rfl) rfl (eb_b0 hno (q_X7_has d h b)) eb_rok ?_
  rintro _ _ ⟨rfl, rfl⟩
  show eb_P _ _ 5 [(0, .ref i), (1, .int b), (2, .int x)] (.int 0 :: []) _ _
  refine ep_if_eq (tgt := 18) dX7_preach_5 (by decide) (fun c1 => ?_) (fun c1 => absurd (by decide) c1)
  refine ep_iconst (v := (-1)) dX7_preach_18 (by decide) ?_
  refine ep_iret dX7_preach_19 rfl rfl ?_
  exact ⟨rfl, rfl⟩
theorem q_X7_preach_nx {n : Nat} {sl : Nat × Nat} {kd : Nat → Nat × Nat} {I : Nat → Nat → Int32} {L : Nat → Nat → Int64} {Rf : Nat → Nat → Option Nat} (d : Nat) {i b c : Nat} (h : eb_shp n kd Rf i) (hc : I i 3 = nI c) (hc7 : c ≤ 7) (hb : b < c) {x : Int32} (hx : ¬ (1 ≤ x ∧ x ≤ 9)) : eb_Q mX7_preach (d + 1) [.ref i, .int (nI b), .int x] (n, sl, kd, I, L, Rf) (eb_r (-1) (n, sl, kd, I, L, Rf)) := by
  refine ep_meth pn_X.2.2.2.2.2.2.2.1 (Nat.le_of_ble_eq_true rfl) ?_
  show eb_P mX7_preach (d + 1) 0 [(0, .ref i), (1, .int (nI b)), (2, .int x)] [] (n, sl, kd, I, L, Rf) _
  refine ep_aload_n (i := 0) dX7_preach_0 rfl rfl ?_
  refine ep_iload_n (i := 1) dX7_preach_1 rfl rfl ?_
  refine ep_callV (M1 := mX7_has) (rest := []) dX7_preach_2 mlX7_56 mvX7_has rfl h.i0 h.1 (Nat.le_of_ble_eq_true rfl) rfl (eb_b1 ⟨nI_pos' (by omega), by rw [hc]; exact nI_lt hb (by omega)⟩ (q_X7_has d h (nI b))) eb_rok ?_
  rintro _ _ ⟨rfl, rfl⟩
  show eb_P _ _ 5 [(0, .ref i), (1, .int (nI b)), (2, .int x)] (.int 1 :: []) _ _
  refine ep_if_eq (tgt := 18) dX7_preach_5 (by decide) (fun c1 => absurd c1 (by decide)) (fun c1 => ?_)
  refine ep_iload_n (i := 2) dX7_preach_8 rfl rfl ?_
  refine ep_iconst (v := 1) dX7_preach_9 (by decide) ?_
  refine ep_bipush (v := 9) dX7_preach_10 (by decide) ?_
  refine ep_callS (M1 := mX10_within) (rest := []) dX7_preach_12 mlX7_60 msX10_within rfl (Nat.le_of_ble_eq_true rfl) rfl (eb_b0 hx (q_X10_within d x 1 9 (n, sl, kd, I, L, Rf))) eb_rok ?_
  rintro _ _ ⟨rfl, rfl⟩
  show eb_P _ _ 15 [(0, .ref i), (1, .int (nI b)), (2, .int x)] (.int 0 :: []) _ _
  refine ep_if_ne (tgt := 20) dX7_preach_15 (by decide) (fun c2 => absurd c2 (by decide)) (fun c2 => ?_)
  refine ep_iconst (v := (-1)) dX7_preach_18 (by decide) ?_
  refine ep_iret dX7_preach_19 rfl rfl ?_
  exact ⟨rfl, rfl⟩
theorem q_X7_setSail_ok {n : Nat} {sl : Nat × Nat} {kd : Nat → Nat × Nat} {I : Nat → Nat → Int32} {L : Nat → Nat → Int64} {Rf : Nat → Nat → Option Nat} (d : Nat) {i : Nat} (h : eb_shp n kd Rf i) {x : Int32} (hx : 0 ≤ x ∧ x ≤ 9) : eb_Q mX7_setSail (d + 1) [.ref i, .int x] (n, sl, kd, I, L, Rf) (fun r τ => τ = (n, sl, kd, z_set I (i) 4 x, L, Rf) ∧ r = some (.int (if I i 4 = x then -2 else 10 + I i 4))) := by
  refine ep_meth pn_X.2.2.2.2.2.2.2.1 (Nat.le_of_ble_eq_true rfl) ?_
  show eb_P mX7_setSail (d + 1) 0 [(0, .ref i), (1, .int x)] [] (n, sl, kd, I, L, Rf) _
  refine ep_iload_n (i := 1) dX7_setSail_0 rfl rfl ?_
  refine ep_iconst (v := 0) dX7_setSail_1 (by decide) ?_
  refine ep_bipush (v := 9) dX7_setSail_2 (by decide) ?_
  refine ep_callS (M1 := mX10_within) (rest := []) dX7_setSail_4 mlX7_60 msX10_within rfl (Nat.le_of_ble_eq_true rfl) rfl (eb_b1 hx (q_X10_within d x 0 9 (n, sl, kd, I, L, Rf))) eb_rok ?_
  rintro _ _ ⟨rfl, rfl⟩
  show eb_P _ _ 7 [(0, .ref i), (1, .int x)] (.int 1 :: []) _ _
  refine ep_if_ne (tgt := 12) dX7_setSail_7 (by decide) (fun c1 => ?_) (fun c1 => absurd (by decide) c1)
  refine ep_aload_n (i := 0) dX7_setSail_12 rfl rfl ?_
  refine ep_getI dX7_setSail_13 flX7_21 h.i0 h.1 ?_
  refine ep_istore_n (l' := [(2, .int (I i 4)), (0, .ref i), (1, .int x)]) dX7_setSail_16 rfl (by decide) rfl ?_
  refine ep_aload_n (i := 0) dX7_setSail_17 rfl rfl ?_
  refine ep_iload_n (i := 1) dX7_setSail_18 rfl rfl ?_
  refine ep_pI dX7_setSail_19 plX7_21 h.i0 (by have := h.x; omega) h.1 rfl rfl ?_
  refine ep_nmI (fun I2 hI2 => ?_)
  refine ep_iload_n (i := 2) dX7_setSail_22 rfl rfl ?_
  refine ep_iload_n (i := 1) dX7_setSail_23 rfl rfl ?_
  refine ep_icmp_ne (tgt := 32) dX7_setSail_24 (by decide) (fun c3 => ?_) (fun c3 => ?_)
  · skip
    refine ep_bipush (v := 10) dX7_setSail_32 (by decide) ?_
    refine ep_iload_n (i := 2) dX7_setSail_34 rfl rfl ?_
    refine ep_iadd dX7_setSail_35 ?_
    refine ep_iret dX7_setSail_36 rfl rfl ?_
    exact ⟨by simp_all, by simp_all⟩
  · skip
    refine ep_bipush (v := (-2)) dX7_setSail_27 (by decide) ?_
    refine ep_goto (tgt := 36) dX7_setSail_29 (by decide) ?_
    refine ep_iret dX7_setSail_36 rfl rfl ?_
    exact ⟨by simp_all, by simp_all⟩
theorem q_X7_setSail_nx {n : Nat} {sl : Nat × Nat} {kd : Nat → Nat × Nat} {I : Nat → Nat → Int32} {L : Nat → Nat → Int64} {Rf : Nat → Nat → Option Nat} (d : Nat) {i : Nat} (h : eb_shp n kd Rf i) {x : Int32} (hx : ¬ (0 ≤ x ∧ x ≤ 9)) : eb_Q mX7_setSail (d + 1) [.ref i, .int x] (n, sl, kd, I, L, Rf) (eb_r (-1) (n, sl, kd, I, L, Rf)) := by
  refine ep_meth pn_X.2.2.2.2.2.2.2.1 (Nat.le_of_ble_eq_true rfl) ?_
  show eb_P mX7_setSail (d + 1) 0 [(0, .ref i), (1, .int x)] [] (n, sl, kd, I, L, Rf) _
  refine ep_iload_n (i := 1) dX7_setSail_0 rfl rfl ?_
  refine ep_iconst (v := 0) dX7_setSail_1 (by decide) ?_
  refine ep_bipush (v := 9) dX7_setSail_2 (by decide) ?_
  refine ep_callS (M1 := mX10_within) (rest := []) dX7_setSail_4 mlX7_60 msX10_within rfl (Nat.le_of_ble_eq_true rfl) rfl (eb_b0 hx (q_X10_within d x 0 9 (n, sl, kd, I, L, Rf))) eb_rok ?_
  rintro _ _ ⟨rfl, rfl⟩
  show eb_P _ _ 7 [(0, .ref i), (1, .int x)] (.int 0 :: []) _ _
  refine ep_if_ne (tgt := 12) dX7_setSail_7 (by decide) (fun c1 => absurd c1 (by decide)) (fun c1 => ?_)
  refine ep_iconst (v := (-1)) dX7_setSail_10 (by decide) ?_
  refine ep_iret dX7_setSail_11 rfl rfl ?_
  exact ⟨rfl, rfl⟩
/-- the brothers below k of ship j laid into ship i -/
def z_ca (I : Nat → Nat → Int32) (i j k : Nat) : Nat → Nat → Int32 := fun a q => if a = i + 1 then (if q < k then I (j + 1) q else I a q) else if a = i + 2 then (if q < k then I (j + 2) q else I a q) else if a = i + 3 then (if q < k then I (j + 3) q else I a q) else I a q
/-- ship j copied into ship i, c brothers -/
def z_cp (I : Nat → Nat → Int32) (i j c : Nat) : Nat → Nat → Int32 := fun a q => if a = i then (if 3 ≤ q ∧ q ≤ 8 then I j q else I i q) else z_ca I i j c a q
theorem z_ca0 (I : Nat → Nat → Int32) (i j : Nat) : z_ca I i j 0 = I := by
  funext a q
  simp [z_ca]
theorem z_crew {n : Nat} {kd : Nat → Nat × Nat} {Rf : Nat → Nat → Option Nat} {I : Nat → Nat → Int32} {i j k q : Nat} (h : eb_shp n kd Rf i) (g : eb_shp n kd Rf j) (hij : i + 4 ≤ j ∨ j + 4 ≤ i) : z_ca I i j k j q = I j q := by
  simp only [z_ca]
  rw [if_neg (by omega), if_neg (by omega), if_neg (by omega)]
theorem q_X7_copy {n : Nat} {sl : Nat × Nat} {kd : Nat → Nat × Nat} {I : Nat → Nat → Int32} {L : Nat → Nat → Int64} {Rf : Nat → Nat → Option Nat} (d : Nat) {i j c : Nat} (h : eb_shp n kd Rf i) (g : eb_shp n kd Rf j) (hij : i + 4 ≤ j ∨ j + 4 ≤ i) (hc : I j 3 = nI c) (hc7 : c ≤ 7) : eb_Q mX7_copy d [.ref i, .ref j] (n, sl, kd, I, L, Rf) (eb_v (n, sl, kd, z_cp I i j c, L, Rf)) := by
  refine ep_meth pn_X.2.2.2.2.2.2.2.1 (Nat.le_of_ble_eq_true rfl) ?_
  show eb_P mX7_copy (d) 0 [(0, .ref i), (1, .ref j)] [] (n, sl, kd, I, L, Rf) _
  refine ep_iconst (v := 0) dX7_copy_0 (by decide) ?_
  refine ep_istore_n (l' := [(2, .int 0), (0, .ref i), (1, .ref j)]) dX7_copy_1 rfl (by decide) rfl ?_
  refine ep_eq (σ2 := (n, sl, kd, z_ca I i j 0, L, Rf)) rfl rfl rfl (by rw [z_ca0]) ?_
  refine ep_eq (l2 := [(2, .int (nI 0)), (0, .ref i), (1, .ref j)]) (σ2 := (n, sl, kd, z_ca I i j 0, L, Rf)) rfl (by rw [nI_0]) rfl rfl ?_
  refine ep_for c (fun k (a : Unit) => ([(2, .int (nI k)), (0, .ref i), (1, .ref j)], (n, sl, kd, z_ca I i j k, L, Rf))) (fun k a => True) ?_ ?_ c 0 () (by omega) trivial
  · intro k a hk hinv ih
    show eb_P _ _ 2 [(2, .int (nI k)), (0, .ref i), (1, .ref j)] [] (n, sl, kd, z_ca I i j k, L, Rf) _
    refine ep_iload_n (i := 2) dX7_copy_2 rfl rfl ?_
    refine ep_aload_n (i := 1) dX7_copy_3 rfl rfl ?_
    refine ep_getI dX7_copy_4 flX7_25 g.i0 g.1 ?_
    refine ep_icmp_ge (tgt := 52) dX7_copy_7 (by decide) (fun c1 => absurd c1 (by rw [z_crew h g hij, hc]; exact nI_ge hk (by omega))) (fun c1 => ?_)
    refine ep_aload_n (i := 0) dX7_copy_10 rfl rfl ?_
    refine ep_getR dX7_copy_11 flX7_9 h.i0 h.1 h.2.2.2.2.1 ?_
    refine ep_iload_n (i := 2) dX7_copy_14 rfl rfl ?_
    refine ep_aload_n (i := 1) dX7_copy_15 rfl rfl ?_
    refine ep_getR dX7_copy_16 flX7_9 g.i0 g.1 g.2.2.2.2.1 ?_
    refine ep_iload_n (i := 2) dX7_copy_19 rfl rfl ?_
    refine ep_iaN dX7_copy_20 g.i1 g.2.1 (by omega) (by decide) ?_
    refine ep_isN dX7_copy_21 h.i1 (by have := h.x; omega) h.2.1 (by omega) (by decide) ?_
    refine ep_nmI (fun I2 hI2 => ?_)
    refine ep_aload_n (i := 0) dX7_copy_22 rfl rfl ?_
    refine ep_getR dX7_copy_23 flX7_15 h.i0 h.1 h.2.2.2.2.2.1 ?_
    refine ep_iload_n (i := 2) dX7_copy_26 rfl rfl ?_
    refine ep_aload_n (i := 1) dX7_copy_27 rfl rfl ?_
    refine ep_getR dX7_copy_28 flX7_15 g.i0 g.1 g.2.2.2.2.2.1 ?_
    refine ep_iload_n (i := 2) dX7_copy_31 rfl rfl ?_
    refine ep_iaN dX7_copy_32 g.i2 g.2.2.1 (by omega) (by decide) ?_
    refine ep_isN dX7_copy_33 h.i2 (by have := h.x; omega) h.2.2.1 (by omega) (by decide) ?_
    refine ep_nmI (fun I3 hI3 => ?_)
    refine ep_aload_n (i := 0) dX7_copy_34 rfl rfl ?_
    refine ep_getR dX7_copy_35 flX7_18 h.i0 h.1 h.2.2.2.2.2.2.1 ?_
    refine ep_iload_n (i := 2) dX7_copy_38 rfl rfl ?_
    refine ep_aload_n (i := 1) dX7_copy_39 rfl rfl ?_
    refine ep_getR dX7_copy_40 flX7_18 g.i0 g.1 g.2.2.2.2.2.2.1 ?_
    refine ep_iload_n (i := 2) dX7_copy_43 rfl rfl ?_
    refine ep_iaN dX7_copy_44 g.i3 g.2.2.2.1 (by omega) (by decide) ?_
    refine ep_isN dX7_copy_45 h.i3 (by have := h.x; omega) h.2.2.2.1 (by omega) (by decide) ?_
    refine ep_nmI (fun I4 hI4 => ?_)
    refine ep_iinc (v := (nI (k + 1))) (l' := [(2, .int ((nI (k + 1)))), (0, .ref i), (1, .ref j)]) dX7_copy_46 rfl (nI_1 _) (by decide) rfl ?_
    refine ep_goto (tgt := 2) dX7_copy_49 (by decide) ?_
    refine ep_eq (l2 := [(2, .int (nI (k + 1))), (0, .ref i), (1, .ref j)]) (σ2 := (n, sl, kd, z_ca I i j (k + 1), L, Rf)) rfl rfl rfl ?_ (ih () trivial)
    clear ih; congr 4; subst_vars; funext a q; have e1 : ¬ j = i := (by omega); have e2 : ¬ j = i + 1 := (by omega); have e3 : ¬ j = i + 2 := (by omega); have e4 : ¬ j + 1 = i := (by omega); have e5 : ¬ j + 2 = i := (by omega)
    by_cases h1 : a = i + 1 <;> by_cases h2 : a = i + 2 <;> by_cases h3 : a = i + 3 <;> by_cases hq : q = k <;> by_cases hq2 : q < k <;> (first | omega | skip) <;> simp_all [z_set, z_ca, Nat.lt_succ_iff_lt_or_eq] <;> (try omega)
  · intro a hinv
    show eb_P _ _ 2 [(2, .int (nI c)), (0, .ref i), (1, .ref j)] [] (n, sl, kd, z_ca I i j c, L, Rf) _
    refine ep_iload_n (i := 2) dX7_copy_2 rfl rfl ?_
    refine ep_aload_n (i := 1) dX7_copy_3 rfl rfl ?_
    refine ep_getI dX7_copy_4 flX7_25 g.i0 g.1 ?_
    refine ep_icmp_ge (tgt := 52) dX7_copy_7 (by decide) (fun c5 => ?_) (fun c5 => absurd (by rw [z_crew h g hij, hc]; exact nI_le (Nat.le_refl _) (by omega)) c5)
    refine ep_aload_n (i := 0) dX7_copy_52 rfl rfl ?_
    refine ep_aload_n (i := 1) dX7_copy_53 rfl rfl ?_
    refine ep_getI dX7_copy_54 flX7_25 g.i0 g.1 ?_
    refine ep_pI dX7_copy_57 plX7_25 h.i0 (by have := h.x; omega) h.1 rfl rfl ?_
    refine ep_nmI (fun I6 hI6 => ?_)
    refine ep_aload_n (i := 0) dX7_copy_60 rfl rfl ?_
    refine ep_aload_n (i := 1) dX7_copy_61 rfl rfl ?_
    refine ep_getI dX7_copy_62 flX7_21 g.i0 g.1 ?_
    refine ep_pI dX7_copy_65 plX7_21 h.i0 (by have := h.x; omega) h.1 rfl rfl ?_
    refine ep_nmI (fun I7 hI7 => ?_)
    refine ep_aload_n (i := 0) dX7_copy_68 rfl rfl ?_
    refine ep_aload_n (i := 1) dX7_copy_69 rfl rfl ?_
    refine ep_getI dX7_copy_70 flX7_28 g.i0 g.1 ?_
    refine ep_pI dX7_copy_73 plX7_28 h.i0 (by have := h.x; omega) h.1 rfl rfl ?_
    refine ep_nmI (fun I8 hI8 => ?_)
    refine ep_aload_n (i := 0) dX7_copy_76 rfl rfl ?_
    refine ep_aload_n (i := 1) dX7_copy_77 rfl rfl ?_
    refine ep_getI dX7_copy_78 flX7_31 g.i0 g.1 ?_
    refine ep_pI dX7_copy_81 plX7_31 h.i0 (by have := h.x; omega) h.1 rfl rfl ?_
    refine ep_nmI (fun I9 hI9 => ?_)
    refine ep_aload_n (i := 0) dX7_copy_84 rfl rfl ?_
    refine ep_aload_n (i := 1) dX7_copy_85 rfl rfl ?_
    refine ep_getI dX7_copy_86 flX7_34 g.i0 g.1 ?_
    refine ep_pI dX7_copy_89 plX7_34 h.i0 (by have := h.x; omega) h.1 rfl rfl ?_
    refine ep_nmI (fun I10 hI10 => ?_)
    refine ep_aload_n (i := 0) dX7_copy_92 rfl rfl ?_
    refine ep_aload_n (i := 1) dX7_copy_93 rfl rfl ?_
    refine ep_getI dX7_copy_94 flX7_37 g.i0 g.1 ?_
    refine ep_pI dX7_copy_97 plX7_37 h.i0 (by have := h.x; omega) h.1 rfl rfl ?_
    refine ep_nmI (fun I11 hI11 => ?_)
    refine ep_vret dX7_copy_100 rfl ?_
    refine ⟨?_, rfl⟩; congr 4; subst_vars; funext a q; have e1 : ¬ j = i := (by omega); have e2 : ¬ j = i + 1 := (by omega); have e3 : ¬ j = i + 2 := (by omega); have e4 : ¬ j = i + 3 := (by omega); by_cases h1 : a = i <;> simp_all [z_set, z_ca, z_cp] <;> (by_cases q3 : q = 3 <;> by_cases q4 : q = 4 <;> by_cases q5 : q = 5 <;> by_cases q6 : q = 6 <;> by_cases q7 : q = 7 <;> by_cases q8 : q = 8 <;> (first | omega | simp_all) <;> omega)
