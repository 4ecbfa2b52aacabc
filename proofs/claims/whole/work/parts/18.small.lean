/-! Row (cells i, i + 1), Tales (i .. i + 3), Luck (i) -/
def eb_rwc (n : Nat) (kd : Nat → Nat × Nat) (Rf : Nat → Nat → Option Nat) (i : Nat) : Prop := (kd i).1 = 4 ∧ kd (i + 1) = (23, 8) ∧ Rf i 0 = some (i + 1) ∧ i + 1 < n ∧ n < 1000000
def eb_tal (n : Nat) (kd : Nat → Nat × Nat) (Rf : Nat → Nat → Option Nat) (i m : Nat) : Prop := (kd i).1 = 8 ∧ kd (i + 1) = (20, m) ∧ kd (i + 2) = (20, m) ∧ kd (i + 3) = (20, m) ∧ Rf i 0 = some (i + 1) ∧ Rf i 1 = some (i + 2) ∧ Rf i 2 = some (i + 3) ∧ i + 3 < n ∧ n < 1000000
/-- the ROW holds vs -/
def z_row (I : Nat → Nat → Int32) (L : Nat → Nat → Int64) (i : Nat) (vs : List Int32) : Prop := I i 1 = nI vs.length ∧ ∀ k, k < vs.length → L (i + 1) k = (vs.getD k 0).toInt64
/-- only the ROW of cell i is another -/
def z_rof (I I1 : Nat → Nat → Int32) (L L1 : Nat → Nat → Int64) (i : Nat) : Prop := (∀ a, a ≠ i → I1 a = I a) ∧ ∀ a, a ≠ i + 1 → L1 a = L a
theorem z_rof.tr {I I1 I2 : Nat → Nat → Int32} {L L1 L2 : Nat → Nat → Int64} {i : Nat} (h : z_rof I I1 L L1 i) (g : z_rof I1 I2 L1 L2 i) : z_rof I I2 L L2 i := ⟨fun a ha => (g.1 a ha).trans (h.1 a ha), fun a ha => (g.2 a ha).trans (h.2 a ha)⟩
def z_tld (n : Nat) (sl : Nat × Nat) (kd : Nat → Nat × Nat) (I : Nat → Nat → Int32) (L : Nat → Nat → Int64) (Rf : Nat → Nat → Option Nat) (i : Nat) (vs : List Int32) : Option Value → eb_S → Prop := fun r τ => r = none ∧ ∃ I1 L1, τ = (n, sl, kd, I1, L1, Rf) ∧ z_row I1 L1 i vs ∧ z_rof I I1 L L1 i
theorem z_tok {n : Nat} {sl : Nat × Nat} {kd : Nat → Nat × Nat} {I : Nat → Nat → Int32} {L : Nat → Nat → Int64} {Rf : Nat → Nat → Option Nat} {i : Nat} {vs : List Int32} {l : List (Nat × Value)} {rest : List Value} : ∀ r1 σ1, z_tld n sl kd I L Rf i vs r1 σ1 → σ1.1 = n ∨ ((∀ q ∈ l, eb_okv n q.2) ∧ ∀ v ∈ rest, eb_okv n v) := fun _ _ ⟨_, _, _, h, _⟩ => Or.inl (by rw [h])

theorem q_X4_empty {n : Nat} {sl : Nat × Nat} {kd : Nat → Nat × Nat} {I : Nat → Nat → Int32} {L : Nat → Nat → Int64} {Rf : Nat → Nat → Option Nat} (d : Nat) {i : Nat} (h : eb_rwc n kd Rf i)  : eb_Q mX4_empty d [.ref i] (n, sl, kd, I, L, Rf) (z_tld n sl kd I L Rf i []) := by
  refine ep_meth pn_X.2.2.2.2.1 (Nat.le_of_ble_eq_true rfl) ?_
  show eb_P mX4_empty (d) 0 [(0, .ref i)] [] (n, sl, kd, I, L, Rf) _
  refine ep_aload_n (i := 0) dX4_empty_0 rfl rfl ?_
  refine ep_iconst (v := 0) dX4_empty_1 (by decide) ?_
  refine ep_pI dX4_empty_2 plX4_13 (by have := h.2.2.2.1; omega) (by have := h.2.2.2; omega) h.1 rfl rfl ?_
  refine ep_nmI (fun I1 hI1 => ?_)
  refine ep_vret dX4_empty_5 rfl ?_
  exact ⟨rfl, _, _, rfl, ⟨by simp_all [z_set, nI_0], fun k hk => absurd hk (Nat.not_lt_zero k)⟩, fun a ha => by simp_all [z_set_ne], fun _ _ => rfl⟩
theorem q_X4_add {n : Nat} {sl : Nat × Nat} {kd : Nat → Nat × Nat} {I : Nat → Nat → Int32} {L : Nat → Nat → Int64} {Rf : Nat → Nat → Option Nat} (d : Nat) {i : Nat} (h : eb_rwc n kd Rf i) {vs : List Int32} (hv : z_row I L i vs) (hl : vs.length < 8) (x : Int32) : eb_Q mX4_add d [.ref i, .int x] (n, sl, kd, I, L, Rf) (z_tld n sl kd I L Rf i (vs ++ [x])) := by
  refine ep_meth pn_X.2.2.2.2.1 (Nat.le_of_ble_eq_true rfl) ?_
  show eb_P mX4_add (d) 0 [(0, .ref i), (1, .int x)] [] (n, sl, kd, I, L, Rf) _
  refine ep_aload_n (i := 0) dX4_add_0 rfl rfl ?_
  refine ep_getI dX4_add_1 flX4_13 (by have := h.2.2.2.1; omega) h.1 ?_
  refine ep_topE (y := nI vs.length) hv.1 ?_
  refine ep_aload_n (i := 0) dX4_add_4 rfl rfl ?_
  refine ep_getR dX4_add_5 flX4_7 (by have := h.2.2.2.1; omega) h.1 h.2.2.1 ?_
  refine ep_alen (v := 8) dX4_add_8 h.2.2.2.1 h.2.1 (by decide) (by decide) ?_
  refine ep_icmp_ge (tgt := 33) dX4_add_9 (by decide) (fun c1 => absurd c1 (nI_ge (b := 8) hl (by decide))) (fun c1 => ?_)
  refine ep_aload_n (i := 0) dX4_add_12 rfl rfl ?_
  refine ep_getR dX4_add_13 flX4_7 (by have := h.2.2.2.1; omega) h.1 h.2.2.1 ?_
  refine ep_aload_n (i := 0) dX4_add_16 rfl rfl ?_
  refine ep_getI dX4_add_17 flX4_13 (by have := h.2.2.2.1; omega) h.1 ?_
  refine ep_topE (y := nI vs.length) hv.1 ?_
  refine ep_iload_n (i := 1) dX4_add_20 rfl rfl ?_
  refine ep_i2l dX4_add_21 rfl ?_
  refine ep_lsN dX4_add_22 h.2.2.2.1 h.2.1 (by omega) (by decide) ?_
  refine ep_nmL (fun L2 hL2 => ?_)
  refine ep_aload_n (i := 0) dX4_add_23 rfl rfl ?_
  refine ep_dup dX4_add_24 rfl ?_
  refine ep_getI dX4_add_25 flX4_13 (by have := h.2.2.2.1; omega) h.1 ?_
  refine ep_topE (y := nI vs.length) hv.1 ?_
  refine ep_iconst (v := 1) dX4_add_28 (by decide) ?_
  refine ep_iadd dX4_add_29 ?_
  refine ep_topE (y := nI (vs.length + 1)) (nI_1 _) ?_
  refine ep_pI dX4_add_30 plX4_13 (by have := h.2.2.2.1; omega) (by have := h.2.2.2; omega) h.1 rfl rfl ?_
  refine ep_nmI (fun I3 hI3 => ?_)
  refine ep_vret dX4_add_33 rfl ?_
  refine ⟨rfl, _, _, rfl, ⟨by simp_all [z_set, nI_1], fun k hk => ?_⟩, fun a ha => by simp_all [z_set_ne], fun a ha => ?_⟩
  · rw [List.length_append] at hk
    by_cases hk2 : k = vs.length
    · subst hk2; simp_all [z_setL, List.getD]
    · have hk3 : k < vs.length := by simp at hk; omega
      have := hv.2 k hk3
      simp_all [z_setL, List.getD, List.getElem?_append_left]
  · funext q; simp_all [z_setL]
theorem q_X4_tell {n : Nat} {sl : Nat × Nat} {kd : Nat → Nat × Nat} {I : Nat → Nat → Int32} {L : Nat → Nat → Int64} {Rf : Nat → Nat → Option Nat} (d : Nat) {i : Nat} (h : eb_rwc n kd Rf i) (x0 : Int32) : eb_Q mX4_tell (d + 1) [.ref i, .int x0] (n, sl, kd, I, L, Rf) (z_tld n sl kd I L Rf i [x0]) := by
  refine ep_meth pn_X.2.2.2.2.1 (Nat.le_of_ble_eq_true rfl) ?_
  show eb_P mX4_tell (d + 1) 0 [(0, .ref i), (1, .int x0)] [] (n, sl, kd, I, L, Rf) _
  refine ep_aload_n (i := 0) dX4_tell_0 rfl rfl ?_
  refine ep_callV (M1 := mX4_empty) (rest := []) dX4_tell_1 mlX4_17 mvX4_empty rfl (by have := h.2.2.2.1; omega) h.1 (Nat.le_of_ble_eq_true rfl) rfl (q_X4_empty (I := I) (L := L) _ h) z_tok ?_
  rintro _ _ ⟨rfl, I0, L0, rfl, v0, f0⟩
  show eb_P _ _ 4 [(0, .ref i), (1, .int x0)] [] (n, sl, kd, I0, L0, Rf) _
  refine ep_aload_n (i := 0) dX4_tell_4 rfl rfl ?_
  refine ep_iload_n (i := 1) dX4_tell_5 rfl rfl ?_
  refine ep_callV (M1 := mX4_add) (rest := []) dX4_tell_6 mlX4_20 mvX4_add rfl (by have := h.2.2.2.1; omega) h.1 (Nat.le_of_ble_eq_true rfl) rfl (q_X4_add (L := L0) _ h v0 (Nat.le_of_ble_eq_true rfl) x0) z_tok ?_
  rintro _ _ ⟨rfl, I1, L1, rfl, v1, f1⟩
  show eb_P _ _ 9 [(0, .ref i), (1, .int x0)] [] (n, sl, kd, I1, L1, Rf) _
  refine ep_vret dX4_tell_9 rfl ?_
  exact ⟨rfl, _, _, rfl, v1, (z_rof.tr f0 f1)⟩
theorem q_X4_tell_ {n : Nat} {sl : Nat × Nat} {kd : Nat → Nat × Nat} {I : Nat → Nat → Int32} {L : Nat → Nat → Int64} {Rf : Nat → Nat → Option Nat} (d : Nat) {i : Nat} (h : eb_rwc n kd Rf i) (x0 x1 : Int32) : eb_Q mX4_tell_ (d + 1) [.ref i, .int x0, .int x1] (n, sl, kd, I, L, Rf) (z_tld n sl kd I L Rf i [x0, x1]) := by
  refine ep_meth pn_X.2.2.2.2.1 (Nat.le_of_ble_eq_true rfl) ?_
  show eb_P mX4_tell_ (d + 1) 0 [(0, .ref i), (1, .int x0), (2, .int x1)] [] (n, sl, kd, I, L, Rf) _
  refine ep_aload_n (i := 0) dX4_tell__0 rfl rfl ?_
  refine ep_callV (M1 := mX4_empty) (rest := []) dX4_tell__1 mlX4_17 mvX4_empty rfl (by have := h.2.2.2.1; omega) h.1 (Nat.le_of_ble_eq_true rfl) rfl (q_X4_empty (I := I) (L := L) _ h) z_tok ?_
  rintro _ _ ⟨rfl, I0, L0, rfl, v0, f0⟩
  show eb_P _ _ 4 [(0, .ref i), (1, .int x0), (2, .int x1)] [] (n, sl, kd, I0, L0, Rf) _
  refine ep_aload_n (i := 0) dX4_tell__4 rfl rfl ?_
  refine ep_iload_n (i := 1) dX4_tell__5 rfl rfl ?_
  refine ep_callV (M1 := mX4_add) (rest := []) dX4_tell__6 mlX4_20 mvX4_add rfl (by have := h.2.2.2.1; omega) h.1 (Nat.le_of_ble_eq_true rfl) rfl (q_X4_add (L := L0) _ h v0 (Nat.le_of_ble_eq_true rfl) x0) z_tok ?_
  rintro _ _ ⟨rfl, I1, L1, rfl, v1, f1⟩
  show eb_P _ _ 9 [(0, .ref i), (1, .int x0), (2, .int x1)] [] (n, sl, kd, I1, L1, Rf) _
  refine ep_aload_n (i := 0) dX4_tell__9 rfl rfl ?_
  refine ep_iload_n (i := 2) dX4_tell__10 rfl rfl ?_
  refine ep_callV (M1 := mX4_add) (rest := []) dX4_tell__11 mlX4_20 mvX4_add rfl (by have := h.2.2.2.1; omega) h.1 (Nat.le_of_ble_eq_true rfl) rfl (q_X4_add (L := L1) _ h v1 (Nat.le_of_ble_eq_true rfl) x1) z_tok ?_
  rintro _ _ ⟨rfl, I2, L2, rfl, v2, f2⟩
  show eb_P _ _ 14 [(0, .ref i), (1, .int x0), (2, .int x1)] [] (n, sl, kd, I2, L2, Rf) _
  refine ep_vret dX4_tell__14 rfl ?_
  exact ⟨rfl, _, _, rfl, v2, (z_rof.tr (z_rof.tr f0 f1) f2)⟩
theorem q_X4_tell__ {n : Nat} {sl : Nat × Nat} {kd : Nat → Nat × Nat} {I : Nat → Nat → Int32} {L : Nat → Nat → Int64} {Rf : Nat → Nat → Option Nat} (d : Nat) {i : Nat} (h : eb_rwc n kd Rf i) (x0 x1 x2 : Int32) : eb_Q mX4_tell__ (d + 1) [.ref i, .int x0, .int x1, .int x2] (n, sl, kd, I, L, Rf) (z_tld n sl kd I L Rf i [x0, x1, x2]) := by
  refine ep_meth pn_X.2.2.2.2.1 (Nat.le_of_ble_eq_true rfl) ?_
  show eb_P mX4_tell__ (d + 1) 0 [(0, .ref i), (1, .int x0), (2, .int x1), (3, .int x2)] [] (n, sl, kd, I, L, Rf) _
  refine ep_aload_n (i := 0) dX4_tell___0 rfl rfl ?_
  refine ep_callV (M1 := mX4_empty) (rest := []) dX4_tell___1 mlX4_17 mvX4_empty rfl (by have := h.2.2.2.1; omega) h.1 (Nat.le_of_ble_eq_true rfl) rfl (q_X4_empty (I := I) (L := L) _ h) z_tok ?_
  rintro _ _ ⟨rfl, I0, L0, rfl, v0, f0⟩
  show eb_P _ _ 4 [(0, .ref i), (1, .int x0), (2, .int x1), (3, .int x2)] [] (n, sl, kd, I0, L0, Rf) _
  refine ep_aload_n (i := 0) dX4_tell___4 rfl rfl ?_
  refine ep_iload_n (i := 1) dX4_tell___5 rfl rfl ?_
  refine ep_callV (M1 := mX4_add) (rest := []) dX4_tell___6 mlX4_20 mvX4_add rfl (by have := h.2.2.2.1; omega) h.1 (Nat.le_of_ble_eq_true rfl) rfl (q_X4_add (L := L0) _ h v0 (Nat.le_of_ble_eq_true rfl) x0) z_tok ?_
  rintro _ _ ⟨rfl, I1, L1, rfl, v1, f1⟩
  show eb_P _ _ 9 [(0, .ref i), (1, .int x0), (2, .int x1), (3, .int x2)] [] (n, sl, kd, I1, L1, Rf) _
  refine ep_aload_n (i := 0) dX4_tell___9 rfl rfl ?_
  refine ep_iload_n (i := 2) dX4_tell___10 rfl rfl ?_
  refine ep_callV (M1 := mX4_add) (rest := []) dX4_tell___11 mlX4_20 mvX4_add rfl (by have := h.2.2.2.1; omega) h.1 (Nat.le_of_ble_eq_true rfl) rfl (q_X4_add (L := L1) _ h v1 (Nat.le_of_ble_eq_true rfl) x1) z_tok ?_
  rintro _ _ ⟨rfl, I2, L2, rfl, v2, f2⟩
  show eb_P _ _ 14 [(0, .ref i), (1, .int x0), (2, .int x1), (3, .int x2)] [] (n, sl, kd, I2, L2, Rf) _
  refine ep_aload_n (i := 0) dX4_tell___14 rfl rfl ?_
  refine ep_iload_n (i := 3) dX4_tell___15 rfl rfl ?_
  refine ep_callV (M1 := mX4_add) (rest := []) dX4_tell___16 mlX4_20 mvX4_add rfl (by have := h.2.2.2.1; omega) h.1 (Nat.le_of_ble_eq_true rfl) rfl (q_X4_add (L := L2) _ h v2 (Nat.le_of_ble_eq_true rfl) x2) z_tok ?_
  rintro _ _ ⟨rfl, I3, L3, rfl, v3, f3⟩
  show eb_P _ _ 19 [(0, .ref i), (1, .int x0), (2, .int x1), (3, .int x2)] [] (n, sl, kd, I3, L3, Rf) _
  refine ep_vret dX4_tell___19 rfl ?_
  exact ⟨rfl, _, _, rfl, v3, (z_rof.tr (z_rof.tr (z_rof.tr f0 f1) f2) f3)⟩
theorem q_X4_tell___ {n : Nat} {sl : Nat × Nat} {kd : Nat → Nat × Nat} {I : Nat → Nat → Int32} {L : Nat → Nat → Int64} {Rf : Nat → Nat → Option Nat} (d : Nat) {i : Nat} (h : eb_rwc n kd Rf i) (x0 x1 x2 x3 : Int32) : eb_Q mX4_tell___ (d + 1) [.ref i, .int x0, .int x1, .int x2, .int x3] (n, sl, kd, I, L, Rf) (z_tld n sl kd I L Rf i [x0, x1, x2, x3]) := by
  refine ep_meth pn_X.2.2.2.2.1 (Nat.le_of_ble_eq_true rfl) ?_
  show eb_P mX4_tell___ (d + 1) 0 [(0, .ref i), (1, .int x0), (2, .int x1), (3, .int x2), (4, .int x3)] [] (n, sl, kd, I, L, Rf) _
  refine ep_aload_n (i := 0) dX4_tell____0 rfl rfl ?_
  refine ep_callV (M1 := mX4_empty) (rest := []) dX4_tell____1 mlX4_17 mvX4_empty rfl (by have := h.2.2.2.1; omega) h.1 (Nat.le_of_ble_eq_true rfl) rfl (q_X4_empty (I := I) (L := L) _ h) z_tok ?_
  rintro _ _ ⟨rfl, I0, L0, rfl, v0, f0⟩
  show eb_P _ _ 4 [(0, .ref i), (1, .int x0), (2, .int x1), (3, .int x2), (4, .int x3)] [] (n, sl, kd, I0, L0, Rf) _
  refine ep_aload_n (i := 0) dX4_tell____4 rfl rfl ?_
  refine ep_iload_n (i := 1) dX4_tell____5 rfl rfl ?_
  refine ep_callV (M1 := mX4_add) (rest := []) dX4_tell____6 mlX4_20 mvX4_add rfl (by have := h.2.2.2.1; omega) h.1 (Nat.le_of_ble_eq_true rfl) rfl (q_X4_add (L := L0) _ h v0 (Nat.le_of_ble_eq_true rfl) x0) z_tok ?_
  rintro _ _ ⟨rfl, I1, L1, rfl, v1, f1⟩
  show eb_P _ _ 9 [(0, .ref i), (1, .int x0), (2, .int x1), (3, .int x2), (4, .int x3)] [] (n, sl, kd, I1, L1, Rf) _
  refine ep_aload_n (i := 0) dX4_tell____9 rfl rfl ?_
  refine ep_iload_n (i := 2) dX4_tell____10 rfl rfl ?_
  refine ep_callV (M1 := mX4_add) (rest := []) dX4_tell____11 mlX4_20 mvX4_add rfl (by have := h.2.2.2.1; omega) h.1 (Nat.le_of_ble_eq_true rfl) rfl (q_X4_add (L := L1) _ h v1 (Nat.le_of_ble_eq_true rfl) x1) z_tok ?_
  rintro _ _ ⟨rfl, I2, L2, rfl, v2, f2⟩
  show eb_P _ _ 14 [(0, .ref i), (1, .int x0), (2, .int x1), (3, .int x2), (4, .int x3)] [] (n, sl, kd, I2, L2, Rf) _
  refine ep_aload_n (i := 0) dX4_tell____14 rfl rfl ?_
  refine ep_iload_n (i := 3) dX4_tell____15 rfl rfl ?_
  refine ep_callV (M1 := mX4_add) (rest := []) dX4_tell____16 mlX4_20 mvX4_add rfl (by have := h.2.2.2.1; omega) h.1 (Nat.le_of_ble_eq_true rfl) rfl (q_X4_add (L := L2) _ h v2 (Nat.le_of_ble_eq_true rfl) x2) z_tok ?_
  rintro _ _ ⟨rfl, I3, L3, rfl, v3, f3⟩
  show eb_P _ _ 19 [(0, .ref i), (1, .int x0), (2, .int x1), (3, .int x2), (4, .int x3)] [] (n, sl, kd, I3, L3, Rf) _
  refine ep_aload_n (i := 0) dX4_tell____19 rfl rfl ?_
  refine ep_iload (i := 4) dX4_tell____20 rfl ?_
  refine ep_callV (M1 := mX4_add) (rest := []) dX4_tell____22 mlX4_20 mvX4_add rfl (by have := h.2.2.2.1; omega) h.1 (Nat.le_of_ble_eq_true rfl) rfl (q_X4_add (L := L3) _ h v3 (Nat.le_of_ble_eq_true rfl) x3) z_tok ?_
  rintro _ _ ⟨rfl, I4, L4, rfl, v4, f4⟩
  show eb_P _ _ 25 [(0, .ref i), (1, .int x0), (2, .int x1), (3, .int x2), (4, .int x3)] [] (n, sl, kd, I4, L4, Rf) _
  refine ep_vret dX4_tell____25 rfl ?_
  exact ⟨rfl, _, _, rfl, v4, (z_rof.tr (z_rof.tr (z_rof.tr (z_rof.tr f0 f1) f2) f3) f4)⟩
def z_tadd (I : Nat → Nat → Int32) (i k : Nat) (a b c : Int32) : Nat → Nat → Int32 := z_set (z_set (z_set (z_set I (i + 1) k a) (i + 2) k b) (i + 3) k c) i 3 (nI (k + 1))
theorem q_X8_add_ok {n : Nat} {sl : Nat × Nat} {kd : Nat → Nat × Nat} {I : Nat → Nat → Int32} {L : Nat → Nat → Int64} {Rf : Nat → Nat → Option Nat} (d : Nat) {i m : Nat} (h : eb_tal n kd Rf i m) (hm : m ≤ 12) {k : Nat} (hs : I i 3 = nI k) (hl : k < m) (x y z : Int32) : eb_Q mX8_add d [.ref i, .int x, .int y, .int z] (n, sl, kd, I, L, Rf) (eb_r 1 (n, sl, kd, z_tadd I i k x y z, L, Rf)) := by
  refine ep_meth pn_X.2.2.2.2.2.2.2.2.1 (Nat.le_of_ble_eq_true rfl) ?_
  show eb_P mX8_add (d) 0 [(0, .ref i), (1, .int x), (2, .int y), (3, .int z)] [] (n, sl, kd, I, L, Rf) _
  refine ep_aload_n (i := 0) dX8_add_0 rfl rfl ?_
  refine ep_getI dX8_add_1 flX8_25 (by have := h.2.2.2.2.2.2.2.1; omega) h.1 ?_
  refine ep_topE (y := nI k) (by simp_all [z_set]) ?_
  refine ep_aload_n (i := 0) dX8_add_4 rfl rfl ?_
  refine ep_getR dX8_add_5 flX8_13 (by have := h.2.2.2.2.2.2.2.1; omega) h.1 h.2.2.2.2.1 ?_
  refine ep_alen (v := nI m) dX8_add_8 (by have := h.2.2.2.2.2.2.2.1; omega) h.2.1 (by decide) rfl ?_
  refine ep_icmp_lt (tgt := 14) dX8_add_9 (by decide) (fun c1 => ?_) (fun c1 => absurd (nI_lt hl (by omega)) c1)
  refine ep_aload_n (i := 0) dX8_add_14 rfl rfl ?_
  refine ep_getR dX8_add_15 flX8_13 (by have := h.2.2.2.2.2.2.2.1; omega) h.1 h.2.2.2.2.1 ?_
  refine ep_aload_n (i := 0) dX8_add_18 rfl rfl ?_
  refine ep_getI dX8_add_19 flX8_25 (by have := h.2.2.2.2.2.2.2.1; omega) h.1 ?_
  refine ep_topE (y := nI k) (by simp_all [z_set]) ?_
  refine ep_iload_n (i := 1) dX8_add_22 rfl rfl ?_
  refine ep_isN dX8_add_23 (by have := h.2.2.2.2.2.2.2.1; omega) (by have := h.2.2.2.2.2.2.2; omega) h.2.1 hl (by omega) ?_
  refine ep_nmI (fun I2 hI2 => ?_)
  refine ep_aload_n (i := 0) dX8_add_24 rfl rfl ?_
  refine ep_getR dX8_add_25 flX8_19 (by have := h.2.2.2.2.2.2.2.1; omega) h.1 h.2.2.2.2.2.1 ?_
  refine ep_aload_n (i := 0) dX8_add_28 rfl rfl ?_
  refine ep_getI dX8_add_29 flX8_25 (by have := h.2.2.2.2.2.2.2.1; omega) h.1 ?_
  refine ep_topE (y := nI k) (by simp_all [z_set]) ?_
  refine ep_iload_n (i := 2) dX8_add_32 rfl rfl ?_
  refine ep_isN dX8_add_33 (by have := h.2.2.2.2.2.2.2.1; omega) (by have := h.2.2.2.2.2.2.2; omega) h.2.2.1 hl (by omega) ?_
  refine ep_nmI (fun I3 hI3 => ?_)
  refine ep_aload_n (i := 0) dX8_add_34 rfl rfl ?_
  refine ep_getR dX8_add_35 flX8_22 (by have := h.2.2.2.2.2.2.2.1; omega) h.1 h.2.2.2.2.2.2.1 ?_
  refine ep_aload_n (i := 0) dX8_add_38 rfl rfl ?_
  refine ep_getI dX8_add_39 flX8_25 (by have := h.2.2.2.2.2.2.2.1; omega) h.1 ?_
  refine ep_topE (y := nI k) (by simp_all [z_set]) ?_
  refine ep_iload_n (i := 3) dX8_add_42 rfl rfl ?_
  refine ep_isN dX8_add_43 (by have := h.2.2.2.2.2.2.2.1; omega) (by have := h.2.2.2.2.2.2.2; omega) h.2.2.2.1 hl (by omega) ?_
  refine ep_nmI (fun I4 hI4 => ?_)
  refine ep_aload_n (i := 0) dX8_add_44 rfl rfl ?_
  refine ep_dup dX8_add_45 rfl ?_
  refine ep_getI dX8_add_46 flX8_25 (by have := h.2.2.2.2.2.2.2.1; omega) h.1 ?_
  refine ep_topE (y := nI k) (by simp_all [z_set]) ?_
  refine ep_iconst (v := 1) dX8_add_49 (by decide) ?_
  refine ep_iadd dX8_add_50 ?_
  refine ep_topE (y := nI (k + 1)) (nI_1 _) ?_
  refine ep_pI dX8_add_51 plX8_25 (by have := h.2.2.2.2.2.2.2.1; omega) (by have := h.2.2.2.2.2.2.2; omega) h.1 rfl rfl ?_
  refine ep_nmI (fun I5 hI5 => ?_)
  refine ep_iconst (v := 1) dX8_add_54 (by decide) ?_
  refine ep_iret dX8_add_55 rfl (by decide) ?_
  exact ⟨by simp_all [z_tadd], rfl⟩
theorem q_X8_add_no {n : Nat} {sl : Nat × Nat} {kd : Nat → Nat × Nat} {I : Nat → Nat → Int32} {L : Nat → Nat → Int64} {Rf : Nat → Nat → Option Nat} (d : Nat) {i m : Nat} (h : eb_tal n kd Rf i m) (hm : m ≤ 12) (hs : I i 3 = nI m) (x y z : Int32) : eb_Q mX8_add d [.ref i, .int x, .int y, .int z] (n, sl, kd, I, L, Rf) (eb_r 0 (n, sl, kd, I, L, Rf)) := by
  refine ep_meth pn_X.2.2.2.2.2.2.2.2.1 (Nat.le_of_ble_eq_true rfl) ?_
  show eb_P mX8_add (d) 0 [(0, .ref i), (1, .int x), (2, .int y), (3, .int z)] [] (n, sl, kd, I, L, Rf) _
  refine ep_aload_n (i := 0) dX8_add_0 rfl rfl ?_
  refine ep_getI dX8_add_1 flX8_25 (by have := h.2.2.2.2.2.2.2.1; omega) h.1 ?_
  refine ep_topE (y := nI m) hs ?_
  refine ep_aload_n (i := 0) dX8_add_4 rfl rfl ?_
  refine ep_getR dX8_add_5 flX8_13 (by have := h.2.2.2.2.2.2.2.1; omega) h.1 h.2.2.2.2.1 ?_
  refine ep_alen (v := nI m) dX8_add_8 (by have := h.2.2.2.2.2.2.2.1; omega) h.2.1 (by decide) rfl ?_
  refine ep_icmp_lt (tgt := 14) dX8_add_9 (by decide) (fun c1 => absurd c1 (fun g => absurd g (by simp [Int32.lt_irrefl]))) (fun c1 => ?_)
  refine ep_iconst (v := 0) dX8_add_12 (by decide) ?_
  refine ep_iret dX8_add_13 rfl (by decide) ?_
  exact ⟨rfl, rfl⟩
theorem q_X8_empty {n : Nat} {sl : Nat × Nat} {kd : Nat → Nat × Nat} {I : Nat → Nat → Int32} {L : Nat → Nat → Int64} {Rf : Nat → Nat → Option Nat} (d : Nat) {i m : Nat} (h : eb_tal n kd Rf i m) (hm : m ≤ 12)  : eb_Q mX8_empty d [.ref i] (n, sl, kd, I, L, Rf) (eb_r (I i 3) (n, sl, kd, z_set I i 3 0, L, Rf)) := by
  refine ep_meth pn_X.2.2.2.2.2.2.2.2.1 (Nat.le_of_ble_eq_true rfl) ?_
  show eb_P mX8_empty (d) 0 [(0, .ref i)] [] (n, sl, kd, I, L, Rf) _
  refine ep_aload_n (i := 0) dX8_empty_0 rfl rfl ?_
  refine ep_getI dX8_empty_1 flX8_25 (by have := h.2.2.2.2.2.2.2.1; omega) h.1 ?_
  refine ep_istore_n (l' := [(1, .int (I i 3)), (0, .ref i)]) dX8_empty_4 rfl (by decide) rfl ?_
  refine ep_aload_n (i := 0) dX8_empty_5 rfl rfl ?_
  refine ep_iconst (v := 0) dX8_empty_6 (by decide) ?_
  refine ep_pI dX8_empty_7 plX8_25 (by have := h.2.2.2.2.2.2.2.1; omega) (by have := h.2.2.2.2.2.2.2; omega) h.1 rfl rfl ?_
  refine ep_nmI (fun I1 hI1 => ?_)
  refine ep_iload_n (i := 1) dX8_empty_10 rfl rfl ?_
  refine ep_iret dX8_empty_11 rfl rfl ?_
  exact ⟨by simp_all, rfl⟩
theorem q_X1_start {n : Nat} {sl : Nat × Nat} {kd : Nat → Nat × Nat} {I : Nat → Nat → Int32} {L : Nat → Nat → Int64} {Rf : Nat → Nat → Option Nat} (d : Nat) {i : Nat} (h : (kd i).1 = 1 ∧ i < n ∧ n < 1000000) (x : Int32) : eb_Q mX1_start d [.ref i, .int x] (n, sl, kd, I, L, Rf) (eb_v (n, sl, kd, z_set I i 0 x, L, Rf)) := by
  refine ep_meth pn_X.2.1 (Nat.le_of_ble_eq_true rfl) ?_
  show eb_P mX1_start (d) 0 [(0, .ref i), (1, .int x)] [] (n, sl, kd, I, L, Rf) _
  refine ep_aload_n (i := 0) dX1_start_0 rfl rfl ?_
  refine ep_iload_n (i := 1) dX1_start_1 rfl rfl ?_
  refine ep_pI dX1_start_2 plX1_7 h.2.1 (by have := h.2; omega) h.1 rfl rfl ?_
  refine ep_nmI (fun I1 hI1 => ?_)
  refine ep_vret dX1_start_5 rfl ?_
  exact ⟨by simp_all, rfl⟩
def z_lk (r : Int32) : Int32 := r * 1103515245 + 12345
def z_dr (r m : Int32) : Int32 := ((r.toUInt32 >>> ((16 : Int32).toUInt32 &&& Int32.toUInt32 31)).toInt32) - ((r.toUInt32 >>> ((16 : Int32).toUInt32 &&& Int32.toUInt32 31)).toInt32) / m * m
theorem q_X1_draw {n : Nat} {sl : Nat × Nat} {kd : Nat → Nat × Nat} {I : Nat → Nat → Int32} {L : Nat → Nat → Int64} {Rf : Nat → Nat → Option Nat} (d : Nat) {i : Nat} (h : (kd i).1 = 1 ∧ i < n ∧ n < 1000000) {m : Int32} (hm : 0 < m) : eb_Q mX1_draw d [.ref i, .int m] (n, sl, kd, I, L, Rf) (eb_r (z_dr (z_lk (I i 0)) m) (n, sl, kd, z_set I i 0 (z_lk (I i 0)), L, Rf)) := by
  refine ep_meth pn_X.2.1 (Nat.le_of_ble_eq_true rfl) ?_
  show eb_P mX1_draw (d) 0 [(0, .ref i), (1, .int m)] [] (n, sl, kd, I, L, Rf) _
  refine ep_aload_n (i := 0) dX1_draw_0 rfl rfl ?_
  refine ep_aload_n (i := 0) dX1_draw_1 rfl rfl ?_
  refine ep_getI dX1_draw_2 flX1_7 h.2.1 h.1 ?_
  refine ep_ldc (v := 1103515245) dX1_draw_5 kcX1_13 ?_
  refine ep_imul dX1_draw_7 ?_
  refine ep_sipush (v := 12345) dX1_draw_8 (by decide) ?_
  refine ep_iadd dX1_draw_11 ?_
  refine ep_pI dX1_draw_12 plX1_7 h.2.1 (by have := h.2; omega) h.1 rfl rfl ?_
  refine ep_nmI (fun I1 hI1 => ?_)
  refine ep_iload_n (i := 1) dX1_draw_15 rfl rfl ?_
  refine ep_if_le (tgt := 31) dX1_draw_16 (by decide) (fun c2 => absurd c2 (fun g => by simp only [Int32.lt_iff_toInt_lt, Int32.le_iff_toInt_le] at *; omega)) (fun c2 => ?_)
  refine ep_aload_n (i := 0) dX1_draw_19 rfl rfl ?_
  refine ep_getI dX1_draw_20 flX1_7 h.2.1 h.1 ?_
  refine ep_bipush (v := 16) dX1_draw_23 (by decide) ?_
  refine ep_iushr dX1_draw_25 rfl ?_
  refine ep_iload_n (i := 1) dX1_draw_26 rfl rfl ?_
  refine ep_irem dX1_draw_27 (fun g => by subst g; exact absurd hm (by decide)) ?_
  refine ep_goto (tgt := 32) dX1_draw_28 (by decide) ?_
  refine ep_iret dX1_draw_32 rfl rfl ?_
  exact ⟨by simp_all [z_lk], by simp_all [z_set, z_lk, z_dr]⟩
