/-! the reference reads a number, and a rule -/
theorem zp_one_le (hr : Nat → Int32) (a m : Int32) (s : zps) : s.1 ≤ (zp_one hr a m s).2.1 ∧ (zp_one hr a m s).2.1 ≤ s.1 + 1 := by
  unfold zp_one; split
  · split <;> simp
  · simp
theorem q_X11_number {n : Nat} {sl : Nat × Nat} {kd : Nat → Nat × Nat} {I : Nat → Nat → Int32} {L : Nat → Nat → Int64} {Rf : Nat → Nat → Option Nat} (d : Nat) {rc m ln tp : Nat} {t : Nat → Int32} (hP : zpc n kd I Rf rc m ln tp t) {s : zps} (hp : s.1 < 900)  : eb_Q mX11_number (d + 3) [.ref 112, .int 3] (n, sl, kd, zpw I s, L, Rf) (eb_r (zp_num (zhr t ln tp) 3 s).1 (n, sl, kd, zpw I (zp_num (zhr t ln tp) 3 s).2, L, Rf)) := by
  have hF := hP.F; have hln := hP.ml; have htp := hP.tq.2
  refine ep_meth pn_X.2.2.2.2.2.2.2.2.2.2.2 (Nat.le_of_ble_eq_true rfl) ?_
  show eb_P _ _ 0 [(0, .ref 112), (1, .int 3)] [] (n, sl, kd, zpw I (s.1, s.2), L, Rf) _
  refine ep_aload_n (i := 0) dX11_number_0 rfl rfl ?_
  refine ep_bipush (v := 48) dX11_number_1 (by decide) ?_
  refine ep_bipush (v := 10) dX11_number_3 (by decide) ?_
  refine ep_callV (M1 := mX11_oneOf) (rest := []) dX11_number_5 mlX11_140 mvX11_oneOf rfl (hF.lt (by decide)) (hF.kc (by decide) rfl) (Nat.le_of_ble_eq_true rfl) rfl (q_X11_oneOf (s := (s.1, s.2)) d hP (by show s.1 < 1000; omega) (by decide) z_o10) (fun _ _ g => Or.inl (by rw [g.1])) ?_
  rintro _ _ ⟨rfl, rfl⟩
  have hb1 := zp_one_le (zhr t ln tp) 48 10 (s.1, s.2)
  rcases e1 : zp_one (zhr t ln tp) 48 10 (s.1, s.2) with ⟨v1, p1, w1⟩
  rw [e1] at hb1; have hb1 : s.1 ≤ p1 ∧ p1 ≤ s.1 + 1 := hb1
  show eb_P _ _ 8 [(0, .ref 112), (1, .int 3)] (.int v1 :: []) (n, sl, kd, zpw I (p1, w1), L, Rf) _
  refine ep_istore_n (l' := [(2, .int v1), (0, .ref 112), (1, .int 3)]) dX11_number_8 rfl (by decide) rfl ?_
  refine ep_iconst (v := 1) dX11_number_9 (by decide) ?_
  refine ep_istore_n (l' := [(3, .int 1), (2, .int v1), (0, .ref 112), (1, .int 3)]) dX11_number_10 rfl (by decide) rfl ?_
  refine ep_iload_n (i := 3) dX11_number_11 rfl rfl ?_
  refine ep_iload_n (i := 1) dX11_number_12 rfl rfl ?_
  refine ep_icmp_ge (tgt := 57) dX11_number_13 (by decide) (fun c2 => absurd c2 (by decide)) (fun c2 => ?_)
  refine ep_aload_n (i := 0) dX11_number_16 rfl rfl ?_
  refine ep_callV (M1 := mX11_fine) (rest := []) dX11_number_17 mlX11_124 mvX11_fine rfl (hF.lt (by decide)) (hF.kc (by decide) rfl) (Nat.le_of_ble_eq_true rfl) rfl (q_X11_fine (s := (p1, w1)) (d + 2) hP (by show p1 < 1000; omega)) eb_bok ?_
  rintro _ _ ⟨rfl, ⟨f3, rfl⟩ | ⟨f3, rfl⟩⟩
  · show eb_P _ _ 20 [(3, .int 1), (2, .int v1), (0, .ref 112), (1, .int 3)] (.int 1 :: []) _ _
    refine ep_if_eq (tgt := 57) dX11_number_20 (by decide) (fun c4 => absurd c4 (by decide)) (fun c4 => ?_)
    refine ep_aload_n (i := 0) dX11_number_23 rfl rfl ?_
    refine ep_callV (M1 := mX11_here) (rest := []) dX11_number_24 mlX11_128 mvX11_here rfl (hF.lt (by decide)) (hF.kc (by decide) rfl) (Nat.le_of_ble_eq_true rfl) rfl (q_X11_here (s := (p1, w1)) (d + 2) hP (by show p1 < 1000; omega)) eb_rok ?_
    rintro _ _ ⟨rfl, rfl⟩
    show eb_P _ _ 27 [(3, .int 1), (2, .int v1), (0, .ref 112), (1, .int 3)] (.int (zhr t ln tp p1) :: []) _ _
    refine ep_bipush (v := 48) dX11_number_27 (by decide) ?_
    refine ep_bipush (v := 57) dX11_number_29 (by decide) ?_
    refine ep_callS (M1 := mX11_in) (rest := []) dX11_number_31 mlX11_98 msX11_in rfl (Nat.le_of_ble_eq_true rfl) rfl (q_X11_in (d + 2) (zhr t ln tp p1) 48 57 (n, sl, kd, zpw I (p1, w1), L, Rf)) eb_bok ?_
    rintro _ _ ⟨rfl, ⟨f5, rfl⟩ | ⟨f5, rfl⟩⟩
    · show eb_P _ _ 34 [(3, .int 1), (2, .int v1), (0, .ref 112), (1, .int 3)] (.int 1 :: []) _ _
      refine ep_if_eq (tgt := 57) dX11_number_34 (by decide) (fun c6 => absurd c6 (by decide)) (fun c6 => ?_)
      refine ep_bipush (v := 10) dX11_number_37 (by decide) ?_
      refine ep_iload_n (i := 2) dX11_number_39 rfl rfl ?_
      refine ep_imul dX11_number_40 ?_
      refine ep_aload_n (i := 0) dX11_number_41 rfl rfl ?_
      refine ep_bipush (v := 48) dX11_number_42 (by decide) ?_
      refine ep_bipush (v := 10) dX11_number_44 (by decide) ?_
      refine ep_callV (M1 := mX11_oneOf) (rest := [.int (10 * v1)]) dX11_number_46 mlX11_140 mvX11_oneOf rfl (hF.lt (by decide)) (hF.kc (by decide) rfl) (Nat.le_of_ble_eq_true rfl) rfl (q_X11_oneOf (s := (p1, w1)) d hP (by show p1 < 1000; omega) (by decide) z_o10) (fun _ _ g => Or.inl (by rw [g.1])) ?_
      rintro _ _ ⟨rfl, rfl⟩
      have hb7 := zp_one_le (zhr t ln tp) 48 10 (p1, w1)
      rcases e7 : zp_one (zhr t ln tp) 48 10 (p1, w1) with ⟨v7, p7, w7⟩
      rw [e7] at hb7; have hb7 : p1 ≤ p7 ∧ p7 ≤ p1 + 1 := hb7
      show eb_P _ _ 49 [(3, .int 1), (2, .int v1), (0, .ref 112), (1, .int 3)] (.int v7 :: [.int (10 * v1)]) (n, sl, kd, zpw I (p7, w7), L, Rf) _
      refine ep_iadd dX11_number_49 ?_
      refine ep_istore_n (l' := [(2, .int ((10 * v1) + v7)), (3, .int 1), (0, .ref 112), (1, .int 3)]) dX11_number_50 rfl (by decide) rfl ?_
      refine ep_iinc (v := 2) (l' := [(3, .int 2), (2, .int ((10 * v1) + v7)), (0, .ref 112), (1, .int 3)]) dX11_number_51 rfl (by decide) (by decide) rfl ?_
      refine ep_goto (tgt := 11) dX11_number_54 (by decide) ?_
      refine ep_iload_n (i := 3) dX11_number_11 rfl rfl ?_
      refine ep_iload_n (i := 1) dX11_number_12 rfl rfl ?_
      refine ep_icmp_ge (tgt := 57) dX11_number_13 (by decide) (fun c8 => absurd c8 (by decide)) (fun c8 => ?_)
      refine ep_aload_n (i := 0) dX11_number_16 rfl rfl ?_
      refine ep_callV (M1 := mX11_fine) (rest := []) dX11_number_17 mlX11_124 mvX11_fine rfl (hF.lt (by decide)) (hF.kc (by decide) rfl) (Nat.le_of_ble_eq_true rfl) rfl (q_X11_fine (s := (p7, w7)) (d + 2) hP (by show p7 < 1000; omega)) eb_bok ?_
      rintro _ _ ⟨rfl, ⟨f9, rfl⟩ | ⟨f9, rfl⟩⟩
      · show eb_P _ _ 20 [(3, .int 2), (2, .int ((10 * v1) + v7)), (0, .ref 112), (1, .int 3)] (.int 1 :: []) _ _
        refine ep_if_eq (tgt := 57) dX11_number_20 (by decide) (fun c10 => absurd c10 (by decide)) (fun c10 => ?_)
        refine ep_aload_n (i := 0) dX11_number_23 rfl rfl ?_
        refine ep_callV (M1 := mX11_here) (rest := []) dX11_number_24 mlX11_128 mvX11_here rfl (hF.lt (by decide)) (hF.kc (by decide) rfl) (Nat.le_of_ble_eq_true rfl) rfl (q_X11_here (s := (p7, w7)) (d + 2) hP (by show p7 < 1000; omega)) eb_rok ?_
        rintro _ _ ⟨rfl, rfl⟩
        show eb_P _ _ 27 [(3, .int 2), (2, .int ((10 * v1) + v7)), (0, .ref 112), (1, .int 3)] (.int (zhr t ln tp p7) :: []) _ _
        refine ep_bipush (v := 48) dX11_number_27 (by decide) ?_
        refine ep_bipush (v := 57) dX11_number_29 (by decide) ?_
        refine ep_callS (M1 := mX11_in) (rest := []) dX11_number_31 mlX11_98 msX11_in rfl (Nat.le_of_ble_eq_true rfl) rfl (q_X11_in (d + 2) (zhr t ln tp p7) 48 57 (n, sl, kd, zpw I (p7, w7), L, Rf)) eb_bok ?_
        rintro _ _ ⟨rfl, ⟨f11, rfl⟩ | ⟨f11, rfl⟩⟩
        · show eb_P _ _ 34 [(3, .int 2), (2, .int ((10 * v1) + v7)), (0, .ref 112), (1, .int 3)] (.int 1 :: []) _ _
          refine ep_if_eq (tgt := 57) dX11_number_34 (by decide) (fun c12 => absurd c12 (by decide)) (fun c12 => ?_)
          refine ep_bipush (v := 10) dX11_number_37 (by decide) ?_
          refine ep_iload_n (i := 2) dX11_number_39 rfl rfl ?_
          refine ep_imul dX11_number_40 ?_
          refine ep_aload_n (i := 0) dX11_number_41 rfl rfl ?_
          refine ep_bipush (v := 48) dX11_number_42 (by decide) ?_
          refine ep_bipush (v := 10) dX11_number_44 (by decide) ?_
          refine ep_callV (M1 := mX11_oneOf) (rest := [.int (10 * ((10 * v1) + v7))]) dX11_number_46 mlX11_140 mvX11_oneOf rfl (hF.lt (by decide)) (hF.kc (by decide) rfl) (Nat.le_of_ble_eq_true rfl) rfl (q_X11_oneOf (s := (p7, w7)) d hP (by show p7 < 1000; omega) (by decide) z_o10) (fun _ _ g => Or.inl (by rw [g.1])) ?_
          rintro _ _ ⟨rfl, rfl⟩
          have hb13 := zp_one_le (zhr t ln tp) 48 10 (p7, w7)
          rcases e13 : zp_one (zhr t ln tp) 48 10 (p7, w7) with ⟨v13, p13, w13⟩
          rw [e13] at hb13; have hb13 : p7 ≤ p13 ∧ p13 ≤ p7 + 1 := hb13
          show eb_P _ _ 49 [(3, .int 2), (2, .int ((10 * v1) + v7)), (0, .ref 112), (1, .int 3)] (.int v13 :: [.int (10 * ((10 * v1) + v7))]) (n, sl, kd, zpw I (p13, w13), L, Rf) _
          refine ep_iadd dX11_number_49 ?_
          refine ep_istore_n (l' := [(2, .int ((10 * ((10 * v1) + v7)) + v13)), (3, .int 2), (0, .ref 112), (1, .int 3)]) dX11_number_50 rfl (by decide) rfl ?_
          refine ep_iinc (v := 3) (l' := [(3, .int 3), (2, .int ((10 * ((10 * v1) + v7)) + v13)), (0, .ref 112), (1, .int 3)]) dX11_number_51 rfl (by decide) (by decide) rfl ?_
          refine ep_goto (tgt := 11) dX11_number_54 (by decide) ?_
          refine ep_iload_n (i := 3) dX11_number_11 rfl rfl ?_
          refine ep_iload_n (i := 1) dX11_number_12 rfl rfl ?_
          refine ep_icmp_ge (tgt := 57) dX11_number_13 (by decide) (fun c14 => ?_) (fun c14 => absurd (by decide) c14)
          refine ep_iload_n (i := 2) dX11_number_57 rfl rfl ?_
          refine ep_iret dX11_number_58 rfl rfl ?_
          have e : zp_num (zhr t ln tp) 3 s = ((10 * ((10 * v1) + v7)) + v13, (p13, w13)) := by
            show zp_nl (zhr t ln tp) 2 (zp_one (zhr t ln tp) 48 10 (s.1, s.2)).1 (zp_one (zhr t ln tp) 48 10 (s.1, s.2)).2 = _
            rw [e1]
            show zp_nl (zhr t ln tp) 2 _ _ = _
            rw [zp_nl]
            rw [if_pos ⟨by assumption, by assumption⟩, e7]
            show zp_nl (zhr t ln tp) 1 _ _ = _
            rw [zp_nl]
            rw [if_pos ⟨by assumption, by assumption⟩, e13]
            rfl
          exact ⟨by rw [e], by rw [e]⟩
        · show eb_P _ _ 34 [(3, .int 2), (2, .int ((10 * v1) + v7)), (0, .ref 112), (1, .int 3)] (.int 0 :: []) _ _
          refine ep_if_eq (tgt := 57) dX11_number_34 (by decide) (fun c15 => ?_) (fun c15 => absurd (by decide) c15)
          refine ep_iload_n (i := 2) dX11_number_57 rfl rfl ?_
          refine ep_iret dX11_number_58 rfl rfl ?_
          have e : zp_num (zhr t ln tp) 3 s = ((10 * v1) + v7, (p7, w7)) := by
            show zp_nl (zhr t ln tp) 2 (zp_one (zhr t ln tp) 48 10 (s.1, s.2)).1 (zp_one (zhr t ln tp) 48 10 (s.1, s.2)).2 = _
            rw [e1]
            show zp_nl (zhr t ln tp) 2 _ _ = _
            rw [zp_nl]
            rw [if_pos ⟨by assumption, by assumption⟩, e7]
            show zp_nl (zhr t ln tp) 1 _ _ = _
            rw [zp_nl]
            rw [if_neg (fun g => by first | exact absurd g.1 (by assumption) | exact absurd g.2 (by assumption))]
          exact ⟨by rw [e], by rw [e]⟩
      · show eb_P _ _ 20 [(3, .int 2), (2, .int ((10 * v1) + v7)), (0, .ref 112), (1, .int 3)] (.int 0 :: []) _ _
        refine ep_if_eq (tgt := 57) dX11_number_20 (by decide) (fun c16 => ?_) (fun c16 => absurd (by decide) c16)
        refine ep_iload_n (i := 2) dX11_number_57 rfl rfl ?_
        refine ep_iret dX11_number_58 rfl rfl ?_
        have e : zp_num (zhr t ln tp) 3 s = ((10 * v1) + v7, (p7, w7)) := by
          show zp_nl (zhr t ln tp) 2 (zp_one (zhr t ln tp) 48 10 (s.1, s.2)).1 (zp_one (zhr t ln tp) 48 10 (s.1, s.2)).2 = _
          rw [e1]
          show zp_nl (zhr t ln tp) 2 _ _ = _
          rw [zp_nl]
          rw [if_pos ⟨by assumption, by assumption⟩, e7]
          show zp_nl (zhr t ln tp) 1 _ _ = _
          rw [zp_nl]
          rw [if_neg (fun g => by first | exact absurd g.1 (by assumption) | exact absurd g.2 (by assumption))]
        exact ⟨by rw [e], by rw [e]⟩
    · show eb_P _ _ 34 [(3, .int 1), (2, .int v1), (0, .ref 112), (1, .int 3)] (.int 0 :: []) _ _
      refine ep_if_eq (tgt := 57) dX11_number_34 (by decide) (fun c17 => ?_) (fun c17 => absurd (by decide) c17)
      refine ep_iload_n (i := 2) dX11_number_57 rfl rfl ?_
      refine ep_iret dX11_number_58 rfl rfl ?_
      have e : zp_num (zhr t ln tp) 3 s = (v1, (p1, w1)) := by
        show zp_nl (zhr t ln tp) 2 (zp_one (zhr t ln tp) 48 10 (s.1, s.2)).1 (zp_one (zhr t ln tp) 48 10 (s.1, s.2)).2 = _
        rw [e1]
        show zp_nl (zhr t ln tp) 2 _ _ = _
        rw [zp_nl]
        rw [if_neg (fun g => by first | exact absurd g.1 (by assumption) | exact absurd g.2 (by assumption))]
      exact ⟨by rw [e], by rw [e]⟩
  · show eb_P _ _ 20 [(3, .int 1), (2, .int v1), (0, .ref 112), (1, .int 3)] (.int 0 :: []) _ _
    refine ep_if_eq (tgt := 57) dX11_number_20 (by decide) (fun c18 => ?_) (fun c18 => absurd (by decide) c18)
    refine ep_iload_n (i := 2) dX11_number_57 rfl rfl ?_
    refine ep_iret dX11_number_58 rfl rfl ?_
    have e : zp_num (zhr t ln tp) 3 s = (v1, (p1, w1)) := by
      show zp_nl (zhr t ln tp) 2 (zp_one (zhr t ln tp) 48 10 (s.1, s.2)).1 (zp_one (zhr t ln tp) 48 10 (s.1, s.2)).2 = _
      rw [e1]
      show zp_nl (zhr t ln tp) 2 _ _ = _
      rw [zp_nl]
      rw [if_neg (fun g => by first | exact absurd g.1 (by assumption) | exact absurd g.2 (by assumption))]
    exact ⟨by rw [e], by rw [e]⟩
/-- a sign and a digit -/
def zp_sgn (hr : Nat → Int32) (m : Int32) (s : zps) : Int32 × zps :=
  let s1 : zps := if s.2 = -1 ∧ hr s.1 ≠ 45 ∧ hr s.1 ≠ 43 then (s.1, nI s.1) else s
  let a := zp_one hr 48 m (s1.1 + 1, s1.2)
  (if hr s.1 = 45 then -a.1 else a.1, a.2)
theorem q_X11_signedOf {n : Nat} {sl : Nat × Nat} {kd : Nat → Nat × Nat} {I : Nat → Nat → Int32} {L : Nat → Nat → Int64} {Rf : Nat → Nat → Option Nat} (d : Nat) {rc m ln tp : Nat} {t : Nat → Int32} (hP : zpc n kd I Rf rc m ln tp t) {s : zps} (hp : s.1 < 900) {k : Int32} (hK : ∀ v, v < 256 → (48 : Int32) ≤ nI v → nI v ≤ (48 : Int32) + k - 1 → v < 128)  : eb_Q mX11_signedOf (d + 3) [.ref 112, .int k] (n, sl, kd, zpw I s, L, Rf) (eb_r (zp_sgn (zhr t ln tp) k s).1 (n, sl, kd, zpw I (zp_sgn (zhr t ln tp) k s).2, L, Rf)) := by
  have hF := hP.F; have hln := hP.ml; have htp := hP.tq.2
  refine ep_meth pn_X.2.2.2.2.2.2.2.2.2.2.2 (Nat.le_of_ble_eq_true rfl) ?_
  show eb_P _ _ 0 [(0, .ref 112), (1, .int k)] [] (n, sl, kd, zpw I (s.1, s.2), L, Rf) _
  refine ep_aload_n (i := 0) dX11_signedOf_0 rfl rfl ?_
  refine ep_callV (M1 := mX11_here) (rest := []) dX11_signedOf_1 mlX11_128 mvX11_here rfl (hF.lt (by decide)) (hF.kc (by decide) rfl) (Nat.le_of_ble_eq_true rfl) rfl (q_X11_here (s := (s.1, s.2)) (d + 2) hP (by show s.1 < 1000; omega)) eb_rok ?_
  rintro _ _ ⟨rfl, rfl⟩
  show eb_P _ _ 4 [(0, .ref 112), (1, .int k)] (.int (zhr t ln tp s.1) :: []) _ _
  refine ep_bipush (v := 45) dX11_signedOf_4 (by decide) ?_
  refine ep_icmp_ne (tgt := 13) dX11_signedOf_6 (by decide) (fun c1 => ?_) (fun c1 => ?_)
  · skip
    refine ep_iconst (v := 0) dX11_signedOf_13 (by decide) ?_
    refine ep_istore_n (l' := [(2, .int 0), (0, .ref 112), (1, .int k)]) dX11_signedOf_14 rfl (by decide) rfl ?_
    refine ep_aload_n (i := 0) dX11_signedOf_15 rfl rfl ?_
    refine ep_callV (M1 := mX11_fine) (rest := []) dX11_signedOf_16 mlX11_124 mvX11_fine rfl (hF.lt (by decide)) (hF.kc (by decide) rfl) (Nat.le_of_ble_eq_true rfl) rfl (q_X11_fine (s := (s.1, s.2)) (d + 2) hP (by show s.1 < 1000; omega)) eb_bok ?_
    rintro _ _ ⟨rfl, ⟨fi, rfl⟩ | ⟨fi, rfl⟩⟩
    · show eb_P _ _ 19 [(2, .int 0), (0, .ref 112), (1, .int k)] (.int 1 :: []) _ _
      refine ep_if_eq (tgt := 48) dX11_signedOf_19 (by decide) (fun c2 => absurd c2 (by decide)) (fun c2 => ?_)
      refine ep_aload_n (i := 0) dX11_signedOf_22 rfl rfl ?_
      refine ep_callV (M1 := mX11_here) (rest := []) dX11_signedOf_23 mlX11_128 mvX11_here rfl (hF.lt (by decide)) (hF.kc (by decide) rfl) (Nat.le_of_ble_eq_true rfl) rfl (q_X11_here (s := (s.1, s.2)) (d + 2) hP (by show s.1 < 1000; omega)) eb_rok ?_
      rintro _ _ ⟨rfl, rfl⟩
      show eb_P _ _ 26 [(2, .int 0), (0, .ref 112), (1, .int k)] (.int (zhr t ln tp s.1) :: []) _ _
      refine ep_bipush (v := 45) dX11_signedOf_26 (by decide) ?_
      refine ep_icmp_eq (tgt := 48) dX11_signedOf_28 (by decide) (fun c3 => absurd c3 c1) (fun c3 => ?_)
      refine ep_aload_n (i := 0) dX11_signedOf_31 rfl rfl ?_
      refine ep_callV (M1 := mX11_here) (rest := []) dX11_signedOf_32 mlX11_128 mvX11_here rfl (hF.lt (by decide)) (hF.kc (by decide) rfl) (Nat.le_of_ble_eq_true rfl) rfl (q_X11_here (s := (s.1, s.2)) (d + 2) hP (by show s.1 < 1000; omega)) eb_rok ?_
      rintro _ _ ⟨rfl, rfl⟩
      show eb_P _ _ 35 [(2, .int 0), (0, .ref 112), (1, .int k)] (.int (zhr t ln tp s.1) :: []) _ _
      refine ep_bipush (v := 43) dX11_signedOf_35 (by decide) ?_
      refine ep_icmp_eq (tgt := 48) dX11_signedOf_37 (by decide) (fun c4 => ?_) (fun c4 => ?_)
      · skip
        refine ep_aload_n (i := 0) dX11_signedOf_48 rfl rfl ?_
        refine ep_dup dX11_signedOf_49 rfl ?_
        refine ep_getI dX11_signedOf_50 flX11_114 (hF.lt (by decide)) (hF.kc (by decide) rfl) ?_
        refine ep_topE (y := nI s.1) zpw_13 ?_
        refine ep_iconst (v := 1) dX11_signedOf_53 (by decide) ?_
        refine ep_iadd dX11_signedOf_54 ?_
        refine ep_topE (y := nI (s.1 + 1)) (nI_add _ _) ?_
        refine ep_pI dX11_signedOf_55 plX11_114 (hF.lt (by decide)) (hF.lx (by decide)) (hF.kc (by decide) rfl) rfl rfl ?_
        refine ep_eq (σ2 := (n, sl, kd, zpw I ((s.1 + 1), s.2), L, Rf)) rfl rfl rfl (by rw [zpw_s13]) ?_
        refine ep_aload_n (i := 0) dX11_signedOf_58 rfl rfl ?_
        refine ep_bipush (v := 48) dX11_signedOf_59 (by decide) ?_
        refine ep_iload_n (i := 1) dX11_signedOf_61 rfl rfl ?_
        refine ep_callV (M1 := mX11_oneOf) (rest := []) dX11_signedOf_62 mlX11_140 mvX11_oneOf rfl (hF.lt (by decide)) (hF.kc (by decide) rfl) (Nat.le_of_ble_eq_true rfl) rfl (q_X11_oneOf (s := ((s.1 + 1), s.2)) d hP (by show (s.1 + 1) < 1000; omega) (by decide) hK) (fun _ _ g => Or.inl (by rw [g.1])) ?_
        rintro _ _ ⟨rfl, rfl⟩
        have hb5 := zp_one_le (zhr t ln tp) 48 k ((s.1 + 1), s.2)
        rcases e5 : zp_one (zhr t ln tp) 48 k ((s.1 + 1), s.2) with ⟨v5, p5, w5⟩
        rw [e5] at hb5; have hb5 : (s.1 + 1) ≤ p5 ∧ p5 ≤ (s.1 + 1) + 1 := hb5
        show eb_P _ _ 65 [(2, .int 0), (0, .ref 112), (1, .int k)] (.int v5 :: []) (n, sl, kd, zpw I (p5, w5), L, Rf) _
        refine ep_istore_n (l' := [(3, .int v5), (2, .int 0), (0, .ref 112), (1, .int k)]) dX11_signedOf_65 rfl (by decide) rfl ?_
        refine ep_iload_n (i := 2) dX11_signedOf_66 rfl rfl ?_
        refine ep_if_eq (tgt := 75) dX11_signedOf_67 (by decide) (fun c6 => ?_) (fun c6 => absurd (by decide) c6)
        refine ep_iload_n (i := 3) dX11_signedOf_75 rfl rfl ?_
        refine ep_iret dX11_signedOf_76 rfl rfl ?_
        have e : zp_sgn (zhr t ln tp) k s = (v5, (p5, w5)) := by
          unfold zp_sgn
          first
          | (rw [if_pos ⟨by assumption, by assumption, by assumption⟩]; simp only [e5]; first | rw [if_pos (by assumption)] | rw [if_neg (by assumption)] | rw [if_pos (Classical.not_not.mp (by assumption))])
          | (rw [if_neg (fun g => by first | exact absurd g.1 (by assumption) | exact absurd (by assumption) g.2.1 | exact absurd (by assumption) g.2.2 | exact absurd (Classical.not_not.mp (by assumption)) g.2.1)]; simp only [e5]; first | rw [if_pos (by assumption)] | rw [if_neg (by assumption)] | rw [if_pos (Classical.not_not.mp (by assumption))])
        exact ⟨by rw [e], by rw [e]⟩
      · skip
        refine ep_aload_n (i := 0) dX11_signedOf_40 rfl rfl ?_
        refine ep_aload_n (i := 0) dX11_signedOf_41 rfl rfl ?_
        refine ep_getI dX11_signedOf_42 flX11_114 (hF.lt (by decide)) (hF.kc (by decide) rfl) ?_
        refine ep_topE (y := nI s.1) zpw_13 ?_
        refine ep_callV (M1 := mX11_fault) (rest := []) dX11_signedOf_45 mlX11_136 mvX11_fault rfl (hF.lt (by decide)) (hF.kc (by decide) rfl) (Nat.le_of_ble_eq_true rfl) rfl (q_X11_fault (s := (s.1, s.2)) (d + 1) hP (by show s.1 < 1000; omega) s.1) (eb_vok rfl) ?_
        rintro _ _ ⟨rfl, rfl⟩
        have hfe : zp_fault s.1 (s.1, s.2) = (s.1, nI s.1) := by unfold zp_fault; rw [if_pos fi]
        rw [hfe]
        show eb_P _ _ 48 [(2, .int 0), (0, .ref 112), (1, .int k)] [] (n, sl, kd, zpw I (s.1, nI s.1), L, Rf) _
        refine ep_aload_n (i := 0) dX11_signedOf_48 rfl rfl ?_
        refine ep_dup dX11_signedOf_49 rfl ?_
        refine ep_getI dX11_signedOf_50 flX11_114 (hF.lt (by decide)) (hF.kc (by decide) rfl) ?_
        refine ep_topE (y := nI s.1) zpw_13 ?_
        refine ep_iconst (v := 1) dX11_signedOf_53 (by decide) ?_
        refine ep_iadd dX11_signedOf_54 ?_
        refine ep_topE (y := nI (s.1 + 1)) (nI_add _ _) ?_
        refine ep_pI dX11_signedOf_55 plX11_114 (hF.lt (by decide)) (hF.lx (by decide)) (hF.kc (by decide) rfl) rfl rfl ?_
        refine ep_eq (σ2 := (n, sl, kd, zpw I ((s.1 + 1), nI s.1), L, Rf)) rfl rfl rfl (by rw [zpw_s13]) ?_
        refine ep_aload_n (i := 0) dX11_signedOf_58 rfl rfl ?_
        refine ep_bipush (v := 48) dX11_signedOf_59 (by decide) ?_
        refine ep_iload_n (i := 1) dX11_signedOf_61 rfl rfl ?_
        refine ep_callV (M1 := mX11_oneOf) (rest := []) dX11_signedOf_62 mlX11_140 mvX11_oneOf rfl (hF.lt (by decide)) (hF.kc (by decide) rfl) (Nat.le_of_ble_eq_true rfl) rfl (q_X11_oneOf (s := ((s.1 + 1), nI s.1)) d hP (by show (s.1 + 1) < 1000; omega) (by decide) hK) (fun _ _ g => Or.inl (by rw [g.1])) ?_
        rintro _ _ ⟨rfl, rfl⟩
        have hb7 := zp_one_le (zhr t ln tp) 48 k ((s.1 + 1), nI s.1)
        rcases e7 : zp_one (zhr t ln tp) 48 k ((s.1 + 1), nI s.1) with ⟨v7, p7, w7⟩
        rw [e7] at hb7; have hb7 : (s.1 + 1) ≤ p7 ∧ p7 ≤ (s.1 + 1) + 1 := hb7
        show eb_P _ _ 65 [(2, .int 0), (0, .ref 112), (1, .int k)] (.int v7 :: []) (n, sl, kd, zpw I (p7, w7), L, Rf) _
        refine ep_istore_n (l' := [(3, .int v7), (2, .int 0), (0, .ref 112), (1, .int k)]) dX11_signedOf_65 rfl (by decide) rfl ?_
        refine ep_iload_n (i := 2) dX11_signedOf_66 rfl rfl ?_
        refine ep_if_eq (tgt := 75) dX11_signedOf_67 (by decide) (fun c8 => ?_) (fun c8 => absurd (by decide) c8)
        refine ep_iload_n (i := 3) dX11_signedOf_75 rfl rfl ?_
        refine ep_iret dX11_signedOf_76 rfl rfl ?_
        have e : zp_sgn (zhr t ln tp) k s = (v7, (p7, w7)) := by
          unfold zp_sgn
          first
          | (rw [if_pos ⟨by assumption, by assumption, by assumption⟩]; simp only [e7]; first | rw [if_pos (by assumption)] | rw [if_neg (by assumption)] | rw [if_pos (Classical.not_not.mp (by assumption))])
          | (rw [if_neg (fun g => by first | exact absurd g.1 (by assumption) | exact absurd (by assumption) g.2.1 | exact absurd (by assumption) g.2.2 | exact absurd (Classical.not_not.mp (by assumption)) g.2.1)]; simp only [e7]; first | rw [if_pos (by assumption)] | rw [if_neg (by assumption)] | rw [if_pos (Classical.not_not.mp (by assumption))])
        exact ⟨by rw [e], by rw [e]⟩
    · show eb_P _ _ 19 [(2, .int 0), (0, .ref 112), (1, .int k)] (.int 0 :: []) _ _
      refine ep_if_eq (tgt := 48) dX11_signedOf_19 (by decide) (fun c9 => ?_) (fun c9 => absurd (by decide) c9)
      refine ep_aload_n (i := 0) dX11_signedOf_48 rfl rfl ?_
      refine ep_dup dX11_signedOf_49 rfl ?_
      refine ep_getI dX11_signedOf_50 flX11_114 (hF.lt (by decide)) (hF.kc (by decide) rfl) ?_
      refine ep_topE (y := nI s.1) zpw_13 ?_
      refine ep_iconst (v := 1) dX11_signedOf_53 (by decide) ?_
      refine ep_iadd dX11_signedOf_54 ?_
      refine ep_topE (y := nI (s.1 + 1)) (nI_add _ _) ?_
      refine ep_pI dX11_signedOf_55 plX11_114 (hF.lt (by decide)) (hF.lx (by decide)) (hF.kc (by decide) rfl) rfl rfl ?_
      refine ep_eq (σ2 := (n, sl, kd, zpw I ((s.1 + 1), s.2), L, Rf)) rfl rfl rfl (by rw [zpw_s13]) ?_
      refine ep_aload_n (i := 0) dX11_signedOf_58 rfl rfl ?_
      refine ep_bipush (v := 48) dX11_signedOf_59 (by decide) ?_
      refine ep_iload_n (i := 1) dX11_signedOf_61 rfl rfl ?_
      refine ep_callV (M1 := mX11_oneOf) (rest := []) dX11_signedOf_62 mlX11_140 mvX11_oneOf rfl (hF.lt (by decide)) (hF.kc (by decide) rfl) (Nat.le_of_ble_eq_true rfl) rfl (q_X11_oneOf (s := ((s.1 + 1), s.2)) d hP (by show (s.1 + 1) < 1000; omega) (by decide) hK) (fun _ _ g => Or.inl (by rw [g.1])) ?_
      rintro _ _ ⟨rfl, rfl⟩
      have hb10 := zp_one_le (zhr t ln tp) 48 k ((s.1 + 1), s.2)
      rcases e10 : zp_one (zhr t ln tp) 48 k ((s.1 + 1), s.2) with ⟨v10, p10, w10⟩
      rw [e10] at hb10; have hb10 : (s.1 + 1) ≤ p10 ∧ p10 ≤ (s.1 + 1) + 1 := hb10
      show eb_P _ _ 65 [(2, .int 0), (0, .ref 112), (1, .int k)] (.int v10 :: []) (n, sl, kd, zpw I (p10, w10), L, Rf) _
      refine ep_istore_n (l' := [(3, .int v10), (2, .int 0), (0, .ref 112), (1, .int k)]) dX11_signedOf_65 rfl (by decide) rfl ?_
      refine ep_iload_n (i := 2) dX11_signedOf_66 rfl rfl ?_
      refine ep_if_eq (tgt := 75) dX11_signedOf_67 (by decide) (fun c11 => ?_) (fun c11 => absurd (by decide) c11)
      refine ep_iload_n (i := 3) dX11_signedOf_75 rfl rfl ?_
      refine ep_iret dX11_signedOf_76 rfl rfl ?_
      have e : zp_sgn (zhr t ln tp) k s = (v10, (p10, w10)) := by
        unfold zp_sgn
        first
        | (rw [if_pos ⟨by assumption, by assumption, by assumption⟩]; simp only [e10]; first | rw [if_pos (by assumption)] | rw [if_neg (by assumption)] | rw [if_pos (Classical.not_not.mp (by assumption))])
        | (rw [if_neg (fun g => by first | exact absurd g.1 (by assumption) | exact absurd (by assumption) g.2.1 | exact absurd (by assumption) g.2.2 | exact absurd (Classical.not_not.mp (by assumption)) g.2.1)]; simp only [e10]; first | rw [if_pos (by assumption)] | rw [if_neg (by assumption)] | rw [if_pos (Classical.not_not.mp (by assumption))])
      exact ⟨by rw [e], by rw [e]⟩
  · skip
    refine ep_iconst (v := 1) dX11_signedOf_9 (by decide) ?_
    refine ep_goto (tgt := 14) dX11_signedOf_10 (by decide) ?_
    refine ep_istore_n (l' := [(2, .int 1), (0, .ref 112), (1, .int k)]) dX11_signedOf_14 rfl (by decide) rfl ?_
    refine ep_aload_n (i := 0) dX11_signedOf_15 rfl rfl ?_
    refine ep_callV (M1 := mX11_fine) (rest := []) dX11_signedOf_16 mlX11_124 mvX11_fine rfl (hF.lt (by decide)) (hF.kc (by decide) rfl) (Nat.le_of_ble_eq_true rfl) rfl (q_X11_fine (s := (s.1, s.2)) (d + 2) hP (by show s.1 < 1000; omega)) eb_bok ?_
    rintro _ _ ⟨rfl, ⟨fi, rfl⟩ | ⟨fi, rfl⟩⟩
    · show eb_P _ _ 19 [(2, .int 1), (0, .ref 112), (1, .int k)] (.int 1 :: []) _ _
      refine ep_if_eq (tgt := 48) dX11_signedOf_19 (by decide) (fun c12 => absurd c12 (by decide)) (fun c12 => ?_)
      refine ep_aload_n (i := 0) dX11_signedOf_22 rfl rfl ?_
      refine ep_callV (M1 := mX11_here) (rest := []) dX11_signedOf_23 mlX11_128 mvX11_here rfl (hF.lt (by decide)) (hF.kc (by decide) rfl) (Nat.le_of_ble_eq_true rfl) rfl (q_X11_here (s := (s.1, s.2)) (d + 2) hP (by show s.1 < 1000; omega)) eb_rok ?_
      rintro _ _ ⟨rfl, rfl⟩
      show eb_P _ _ 26 [(2, .int 1), (0, .ref 112), (1, .int k)] (.int (zhr t ln tp s.1) :: []) _ _
      refine ep_bipush (v := 45) dX11_signedOf_26 (by decide) ?_
      refine ep_icmp_eq (tgt := 48) dX11_signedOf_28 (by decide) (fun c13 => ?_) (fun c13 => absurd (Classical.not_not.mp c1) c13)
      refine ep_aload_n (i := 0) dX11_signedOf_48 rfl rfl ?_
      refine ep_dup dX11_signedOf_49 rfl ?_
      refine ep_getI dX11_signedOf_50 flX11_114 (hF.lt (by decide)) (hF.kc (by decide) rfl) ?_
      refine ep_topE (y := nI s.1) zpw_13 ?_
      refine ep_iconst (v := 1) dX11_signedOf_53 (by decide) ?_
      refine ep_iadd dX11_signedOf_54 ?_
      refine ep_topE (y := nI (s.1 + 1)) (nI_add _ _) ?_
      refine ep_pI dX11_signedOf_55 plX11_114 (hF.lt (by decide)) (hF.lx (by decide)) (hF.kc (by decide) rfl) rfl rfl ?_
      refine ep_eq (σ2 := (n, sl, kd, zpw I ((s.1 + 1), s.2), L, Rf)) rfl rfl rfl (by rw [zpw_s13]) ?_
      refine ep_aload_n (i := 0) dX11_signedOf_58 rfl rfl ?_
      refine ep_bipush (v := 48) dX11_signedOf_59 (by decide) ?_
      refine ep_iload_n (i := 1) dX11_signedOf_61 rfl rfl ?_
      refine ep_callV (M1 := mX11_oneOf) (rest := []) dX11_signedOf_62 mlX11_140 mvX11_oneOf rfl (hF.lt (by decide)) (hF.kc (by decide) rfl) (Nat.le_of_ble_eq_true rfl) rfl (q_X11_oneOf (s := ((s.1 + 1), s.2)) d hP (by show (s.1 + 1) < 1000; omega) (by decide) hK) (fun _ _ g => Or.inl (by rw [g.1])) ?_
      rintro _ _ ⟨rfl, rfl⟩
      have hb14 := zp_one_le (zhr t ln tp) 48 k ((s.1 + 1), s.2)
      rcases e14 : zp_one (zhr t ln tp) 48 k ((s.1 + 1), s.2) with ⟨v14, p14, w14⟩
      rw [e14] at hb14; have hb14 : (s.1 + 1) ≤ p14 ∧ p14 ≤ (s.1 + 1) + 1 := hb14
      show eb_P _ _ 65 [(2, .int 1), (0, .ref 112), (1, .int k)] (.int v14 :: []) (n, sl, kd, zpw I (p14, w14), L, Rf) _
      refine ep_istore_n (l' := [(3, .int v14), (2, .int 1), (0, .ref 112), (1, .int k)]) dX11_signedOf_65 rfl (by decide) rfl ?_
      refine ep_iload_n (i := 2) dX11_signedOf_66 rfl rfl ?_
      refine ep_if_eq (tgt := 75) dX11_signedOf_67 (by decide) (fun c15 => absurd c15 (by decide)) (fun c15 => ?_)
      refine ep_iload_n (i := 3) dX11_signedOf_70 rfl rfl ?_
      refine ep_ineg dX11_signedOf_71 ?_
      refine ep_goto (tgt := 76) dX11_signedOf_72 (by decide) ?_
      refine ep_iret dX11_signedOf_76 rfl rfl ?_
      have e : zp_sgn (zhr t ln tp) k s = (-v14, (p14, w14)) := by
        unfold zp_sgn
        first
        | (rw [if_pos ⟨by assumption, by assumption, by assumption⟩]; simp only [e14]; first | rw [if_pos (by assumption)] | rw [if_neg (by assumption)] | rw [if_pos (Classical.not_not.mp (by assumption))])
        | (rw [if_neg (fun g => by first | exact absurd g.1 (by assumption) | exact absurd (by assumption) g.2.1 | exact absurd (by assumption) g.2.2 | exact absurd (Classical.not_not.mp (by assumption)) g.2.1)]; simp only [e14]; first | rw [if_pos (by assumption)] | rw [if_neg (by assumption)] | rw [if_pos (Classical.not_not.mp (by assumption))])
      exact ⟨by rw [e], by rw [e]⟩
    · show eb_P _ _ 19 [(2, .int 1), (0, .ref 112), (1, .int k)] (.int 0 :: []) _ _
      refine ep_if_eq (tgt := 48) dX11_signedOf_19 (by decide) (fun c16 => ?_) (fun c16 => absurd (by decide) c16)
      refine ep_aload_n (i := 0) dX11_signedOf_48 rfl rfl ?_
      refine ep_dup dX11_signedOf_49 rfl ?_
      refine ep_getI dX11_signedOf_50 flX11_114 (hF.lt (by decide)) (hF.kc (by decide) rfl) ?_
      refine ep_topE (y := nI s.1) zpw_13 ?_
      refine ep_iconst (v := 1) dX11_signedOf_53 (by decide) ?_
      refine ep_iadd dX11_signedOf_54 ?_
      refine ep_topE (y := nI (s.1 + 1)) (nI_add _ _) ?_
      refine ep_pI dX11_signedOf_55 plX11_114 (hF.lt (by decide)) (hF.lx (by decide)) (hF.kc (by decide) rfl) rfl rfl ?_
      refine ep_eq (σ2 := (n, sl, kd, zpw I ((s.1 + 1), s.2), L, Rf)) rfl rfl rfl (by rw [zpw_s13]) ?_
      refine ep_aload_n (i := 0) dX11_signedOf_58 rfl rfl ?_
      refine ep_bipush (v := 48) dX11_signedOf_59 (by decide) ?_
      refine ep_iload_n (i := 1) dX11_signedOf_61 rfl rfl ?_
      refine ep_callV (M1 := mX11_oneOf) (rest := []) dX11_signedOf_62 mlX11_140 mvX11_oneOf rfl (hF.lt (by decide)) (hF.kc (by decide) rfl) (Nat.le_of_ble_eq_true rfl) rfl (q_X11_oneOf (s := ((s.1 + 1), s.2)) d hP (by show (s.1 + 1) < 1000; omega) (by decide) hK) (fun _ _ g => Or.inl (by rw [g.1])) ?_
      rintro _ _ ⟨rfl, rfl⟩
      have hb17 := zp_one_le (zhr t ln tp) 48 k ((s.1 + 1), s.2)
      rcases e17 : zp_one (zhr t ln tp) 48 k ((s.1 + 1), s.2) with ⟨v17, p17, w17⟩
      rw [e17] at hb17; have hb17 : (s.1 + 1) ≤ p17 ∧ p17 ≤ (s.1 + 1) + 1 := hb17
      show eb_P _ _ 65 [(2, .int 1), (0, .ref 112), (1, .int k)] (.int v17 :: []) (n, sl, kd, zpw I (p17, w17), L, Rf) _
      refine ep_istore_n (l' := [(3, .int v17), (2, .int 1), (0, .ref 112), (1, .int k)]) dX11_signedOf_65 rfl (by decide) rfl ?_
      refine ep_iload_n (i := 2) dX11_signedOf_66 rfl rfl ?_
      refine ep_if_eq (tgt := 75) dX11_signedOf_67 (by decide) (fun c18 => absurd c18 (by decide)) (fun c18 => ?_)
      refine ep_iload_n (i := 3) dX11_signedOf_70 rfl rfl ?_
      refine ep_ineg dX11_signedOf_71 ?_
      refine ep_goto (tgt := 76) dX11_signedOf_72 (by decide) ?_
      refine ep_iret dX11_signedOf_76 rfl rfl ?_
      have e : zp_sgn (zhr t ln tp) k s = (-v17, (p17, w17)) := by
        unfold zp_sgn
        first
        | (rw [if_pos ⟨by assumption, by assumption, by assumption⟩]; simp only [e17]; first | rw [if_pos (by assumption)] | rw [if_neg (by assumption)] | rw [if_pos (Classical.not_not.mp (by assumption))])
        | (rw [if_neg (fun g => by first | exact absurd g.1 (by assumption) | exact absurd (by assumption) g.2.1 | exact absurd (by assumption) g.2.2 | exact absurd (Classical.not_not.mp (by assumption)) g.2.1)]; simp only [e17]; first | rw [if_pos (by assumption)] | rw [if_neg (by assumption)] | rw [if_pos (Classical.not_not.mp (by assumption))])
      exact ⟨by rw [e], by rw [e]⟩
theorem q_X11_letterOf (d : Nat) (k : Int32) (σ : eb_S) : eb_Q mX11_letterOf d [.int k] σ (eb_r (z_li k) σ) := by
  refine ep_meth pn_X.2.2.2.2.2.2.2.2.2.2.2 (Nat.le_of_ble_eq_true rfl) ?_
  show eb_P _ _ 0 [(0, .int k)] [] σ _
  refine ep_iload_n (i := 0) dX11_letterOf_0 rfl rfl ?_
  refine ep_bipush (v := 103) dX11_letterOf_1 (by decide) ?_
  refine ep_icmp_ne (tgt := 10) dX11_letterOf_3 (by decide) (fun c1 => ?_) (fun c1 => ?_)
  · skip
    refine ep_iload_n (i := 0) dX11_letterOf_10 rfl rfl ?_
    refine ep_bipush (v := 116) dX11_letterOf_11 (by decide) ?_
    refine ep_icmp_ne (tgt := 20) dX11_letterOf_13 (by decide) (fun c2 => ?_) (fun c2 => ?_)
    · skip
      refine ep_iload_n (i := 0) dX11_letterOf_20 rfl rfl ?_
      refine ep_bipush (v := 107) dX11_letterOf_21 (by decide) ?_
      refine ep_icmp_ne (tgt := 30) dX11_letterOf_23 (by decide) (fun c3 => ?_) (fun c3 => ?_)
      · skip
        refine ep_iload_n (i := 0) dX11_letterOf_30 rfl rfl ?_
        refine ep_bipush (v := 112) dX11_letterOf_31 (by decide) ?_
        refine ep_icmp_ne (tgt := 40) dX11_letterOf_33 (by decide) (fun c4 => ?_) (fun c4 => ?_)
        · skip
          refine ep_iload_n (i := 0) dX11_letterOf_40 rfl rfl ?_
          refine ep_bipush (v := 108) dX11_letterOf_41 (by decide) ?_
          refine ep_icmp_ne (tgt := 50) dX11_letterOf_43 (by decide) (fun c5 => ?_) (fun c5 => ?_)
          · skip
            refine ep_iload_n (i := 0) dX11_letterOf_50 rfl rfl ?_
            refine ep_bipush (v := 105) dX11_letterOf_51 (by decide) ?_
            refine ep_icmp_ne (tgt := 60) dX11_letterOf_53 (by decide) (fun c6 => ?_) (fun c6 => ?_)
            · skip
              refine ep_iload_n (i := 0) dX11_letterOf_60 rfl rfl ?_
              refine ep_bipush (v := 110) dX11_letterOf_61 (by decide) ?_
              refine ep_icmp_ne (tgt := 71) dX11_letterOf_63 (by decide) (fun c7 => ?_) (fun c7 => ?_)
              · skip
                refine ep_iconst (v := (-1)) dX11_letterOf_71 (by decide) ?_
                refine ep_iret dX11_letterOf_72 rfl rfl ?_
                exact ⟨rfl, by unfold z_li; repeat (first | rw [if_neg (by assumption)] | rw [if_pos (Classical.not_not.mp (by assumption))])⟩
              · skip
                refine ep_bipush (v := 6) dX11_letterOf_66 (by decide) ?_
                refine ep_goto (tgt := 72) dX11_letterOf_68 (by decide) ?_
                refine ep_iret dX11_letterOf_72 rfl rfl ?_
                exact ⟨rfl, by unfold z_li; repeat (first | rw [if_neg (by assumption)] | rw [if_pos (Classical.not_not.mp (by assumption))])⟩
            · skip
              refine ep_iconst (v := 5) dX11_letterOf_56 (by decide) ?_
              refine ep_goto (tgt := 72) dX11_letterOf_57 (by decide) ?_
              refine ep_iret dX11_letterOf_72 rfl rfl ?_
              exact ⟨rfl, by unfold z_li; repeat (first | rw [if_neg (by assumption)] | rw [if_pos (Classical.not_not.mp (by assumption))])⟩
          · skip
            refine ep_iconst (v := 4) dX11_letterOf_46 (by decide) ?_
            refine ep_goto (tgt := 72) dX11_letterOf_47 (by decide) ?_
            refine ep_iret dX11_letterOf_72 rfl rfl ?_
            exact ⟨rfl, by unfold z_li; repeat (first | rw [if_neg (by assumption)] | rw [if_pos (Classical.not_not.mp (by assumption))])⟩
        · skip
          refine ep_iconst (v := 3) dX11_letterOf_36 (by decide) ?_
          refine ep_goto (tgt := 72) dX11_letterOf_37 (by decide) ?_
          refine ep_iret dX11_letterOf_72 rfl rfl ?_
          exact ⟨rfl, by unfold z_li; repeat (first | rw [if_neg (by assumption)] | rw [if_pos (Classical.not_not.mp (by assumption))])⟩
      · skip
        refine ep_iconst (v := 2) dX11_letterOf_26 (by decide) ?_
        refine ep_goto (tgt := 72) dX11_letterOf_27 (by decide) ?_
        refine ep_iret dX11_letterOf_72 rfl rfl ?_
        exact ⟨rfl, by unfold z_li; repeat (first | rw [if_neg (by assumption)] | rw [if_pos (Classical.not_not.mp (by assumption))])⟩
    · skip
      refine ep_iconst (v := 1) dX11_letterOf_16 (by decide) ?_
      refine ep_goto (tgt := 72) dX11_letterOf_17 (by decide) ?_
      refine ep_iret dX11_letterOf_72 rfl rfl ?_
      exact ⟨rfl, by unfold z_li; repeat (first | rw [if_neg (by assumption)] | rw [if_pos (Classical.not_not.mp (by assumption))])⟩
  · skip
    refine ep_iconst (v := 0) dX11_letterOf_6 (by decide) ?_
    refine ep_goto (tgt := 72) dX11_letterOf_7 (by decide) ?_
    refine ep_iret dX11_letterOf_72 rfl rfl ?_
    exact ⟨rfl, by unfold z_li; repeat (first | rw [if_neg (by assumption)] | rw [if_pos (Classical.not_not.mp (by assumption))])⟩
