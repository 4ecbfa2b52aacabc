/-! Rule.beThePlainOne, read -/
def z_tk (s : Int32) (R : z_R) : Option z_R := if R.2.2.2.2.1 then z_tt s R else z_tj s R
/-- what holds of the state behind p signs -/
def z_ok (p : Nat) (R : z_R) : Prop := R.1.length + R.2.1.length ≤ p ∧ R.2.2.1 ≤ 4 ∧ R.2.2.2.1 ≤ 3
theorem z_tk_ok {p : Nat} {s : Int32} {R R1 : z_R} (h : z_ok p R) (e : z_tk s R = some R1) : z_ok (p + 1) R1 := by
  obtain ⟨h1, h2, h3⟩ := h
  unfold z_tk at e
  split at e
  · unfold z_tt z_op at e
    repeat' split at e
    all_goals first | (cases e; done) | skip
    all_goals (simp only [Option.some.injEq] at e; subst e; refine ⟨?_, ?_, ?_⟩ <;> simp <;> omega)
  · unfold z_tj z_ln3 z_cl at e
    have hl := z_rl_len 0 R.2.1 R.1
    have hl2 := z_rl_len (z_rk s) R.2.1 R.1
    repeat' split at e
    all_goals first | (cases e; done) | skip
    all_goals (simp only [Option.some.injEq] at e; subst e)
    · rename_i hn
      have : R.1.length ≠ 0 := fun g => hn (Or.inr (Or.inr (List.length_eq_zero_iff.mp g)))
      have : ¬ R.2.2.2.1 = 3 := fun g => hn (Or.inr (Or.inl g))
      refine ⟨?_, h2, ?_⟩ <;> simp <;> omega
    · refine ⟨?_, ?_, ?_⟩ <;> simp [z_rel] <;> omega
    · refine ⟨?_, h2, ?_⟩ <;> simp [z_rel] <;> omega
theorem z_ok0 : z_ok 0 z_R0 := ⟨Nat.le_refl 0, Nat.zero_le 4, Nat.zero_le 3⟩
def z_rdl (t : Nat → Int32) : Nat → Nat → z_R → Nat ⊕ z_R
  | 0, _, R => .inr R
  | j + 1, p, R => if 40 ≤ p then .inl p else match z_tk (t p) R with
    | none => .inl p
    | some R1 => z_rdl t j (p + 1) R1
def z_pln : z_R := ([-1, -2, -143], [], 0, 0, false, fun _ => false, false, false)
/-- what read answers -/
def z_rda (t : Nat → Int32) (m : Nat) : Int32 := if m = 0 then -1 else match z_rdl t m 0 z_R0 with
  | .inl p => nI p
  | .inr R => if R.2.2.2.2.1 = true ∨ 0 < R.2.2.1 then nI m else -1
/-- what the rule is then, if no fault is found -/
def z_rdR (t : Nat → Int32) (m : Nat) : z_R := if m = 0 then z_pln else match z_rdl t m 0 z_R0 with
  | .inl _ => z_R0
  | .inr R => z_rel 0 R
def z_rdq (n : Nat) (sl : Nat × Nat) (kd : Nat → Nat × Nat) (L : Nat → Nat → Int64) (Rf : Nat → Nat → Option Nat) (I : Nat → Nat → Int32) (i : Nat) (t : Nat → Int32) (m : Nat) : Option Value → eb_S → Prop := fun r τ => r = some (.int (z_rda t m)) ∧ ∃ I1, τ = (n, sl, kd, I1, L, Rf) ∧ (z_rda t m = -1 → z_RI I1 i (z_rdR t m)) ∧ z_only (z_rc i) I I1
theorem z_rel_nil (R : z_R) (h : R.2.1 = []) (x : Int32) : z_rel x R = R := by
  obtain ⟨a, b, c⟩ := R
  simp only at h; subst h; rfl
theorem z_RI_cmp {I : Nat → Nat → Int32} {i : Nat} {a b : List Int32} {c e : Nat} {f : Bool} {g g1 : Nat → Bool} {k l : Bool} (h : z_RI I i (a, b, c, e, f, g, k, l)) (hg : ∀ q, q ≤ c → g q = g1 q) : z_RI I i (a, b, c, e, f, g1, k, l) := by
  obtain ⟨a1, a2, a3, a4, a5, a6, a7⟩ := h
  exact ⟨a1, a2, a3, a4, a5, fun q hq => (a6 q hq).trans (congrArg z_b2 (hg q hq)), a7⟩
theorem q_X5_beThePlainOne {n : Nat} {sl : Nat × Nat} {kd : Nat → Nat × Nat} {I : Nat → Nat → Int32} {L : Nat → Nat → Int64} {Rf : Nat → Nat → Option Nat} (d : Nat) {i : Nat} (h : eb_rul n kd Rf i)  : eb_Q mX5_beThePlainOne (d + 5) [.ref i] (n, sl, kd, I, L, Rf) (z_rq n sl kd L Rf I i none z_pln) := by
  refine ep_meth pn_X.2.2.2.2.2.1 (Nat.le_of_ble_eq_true rfl) ?_
  show eb_P mX5_beThePlainOne (d + 5) 0 [(0, .ref i)] [] (n, sl, kd, I, L, Rf) _
  refine ep_aload_n (i := 0) dX5_beThePlainOne_0 rfl rfl ?_
  refine ep_callV (M1 := mX5_begin) (rest := []) dX5_beThePlainOne_1 mlX5_34 mvX5_begin rfl (by have := h.2.2.2.2.2.2.2.2.2.1; omega) h.1 (Nat.le_of_ble_eq_true rfl) rfl (q_X5_begin (I := I) (d + 4) h) z_rqok ?_
  rintro _ _ ⟨rfl, Ie1, rfl, hRe1, hoe1⟩
  show eb_P _ _ 4 [(0, .ref i)] [] (n, sl, kd, Ie1, L, Rf) _
  have o2 : z_only (z_rc i) I Ie1 := z_only.tr (z_only.rf) hoe1
  refine ep_aload_n (i := 0) dX5_beThePlainOne_4 rfl rfl ?_
  refine ep_bipush (v := 103) dX5_beThePlainOne_5 (by decide) ?_
  refine ep_topE (y := nI 103) (by decide) ?_
  refine ep_callV (M1 := mX5_takeThing) (rest := []) dX5_beThePlainOne_7 mlX5_45 mvX5_takeThing rfl (by have := h.2.2.2.2.2.2.2.2.2.1; omega) h.1 (Nat.le_of_ble_eq_true rfl) rfl (q_X5_takeThing (R := z_R0) (x := 103) d h hRe1 (by decide) (by decide) (by decide)) z_oqok ?_
  rintro _ _ ⟨rfl, Ie3, rfl, hRe3, hoe3⟩
  show eb_P _ _ 10 [(0, .ref i)] (.int (z_b2 (z_tt (nI 103) z_R0).isSome) :: []) (n, sl, kd, Ie3, L, Rf) _
  have o4 : z_only (z_rc i) I Ie3 := z_only.tr (o2) hoe3
  refine ep_pop dX5_beThePlainOne_10 rfl ?_
  have hRA : z_RI Ie3 i (([-1], [], 0, 0, false, fun _ => false, false, false) : z_R) := hRe3 _ (by rw [z_tt, if_neg (by decide), if_neg (by decide), if_neg (by decide), if_neg (by decide)]; rfl)
  refine ep_aload_n (i := 0) dX5_beThePlainOne_11 rfl rfl ?_
  refine ep_bipush (v := 43) dX5_beThePlainOne_12 (by decide) ?_
  refine ep_callV (M1 := mX5_takeJoint) (rest := []) dX5_beThePlainOne_14 mlX5_49 mvX5_takeJoint rfl (by have := h.2.2.2.2.2.2.2.2.2.1; omega) h.1 (Nat.le_of_ble_eq_true rfl) rfl (q_X5_takeJoint (R := (([-1], [], 0, 0, false, fun _ => false, false, false) : z_R)) (d + 1) h hRA (by decide) (by decide) (by decide) (by decide) 43) z_oqok ?_
  rintro _ _ ⟨rfl, Ie5, rfl, hRe5, hoe5⟩
  show eb_P _ _ 17 [(0, .ref i)] (.int (z_b2 (z_tj 43 (([-1], [], 0, 0, false, fun _ => false, false, false) : z_R)).isSome) :: []) (n, sl, kd, Ie5, L, Rf) _
  have o6 : z_only (z_rc i) I Ie5 := z_only.tr (o4) hoe5
  refine ep_pop dX5_beThePlainOne_17 rfl ?_
  have hRB : z_RI Ie5 i (([-1], [43], 0, 0, true, fun _ => false, false, false) : z_R) := z_RI_cmp (hRe5 _ (by rw [z_tj, if_neg (by decide), if_neg (by decide), if_neg (by decide)]; rfl)) (fun q hq => by have hq : q = 0 := Nat.le_zero.mp hq; subst hq; rfl)
  refine ep_aload_n (i := 0) dX5_beThePlainOne_18 rfl rfl ?_
  refine ep_bipush (v := 116) dX5_beThePlainOne_19 (by decide) ?_
  refine ep_topE (y := nI 116) (by decide) ?_
  refine ep_callV (M1 := mX5_takeThing) (rest := []) dX5_beThePlainOne_21 mlX5_45 mvX5_takeThing rfl (by have := h.2.2.2.2.2.2.2.2.2.1; omega) h.1 (Nat.le_of_ble_eq_true rfl) rfl (q_X5_takeThing (R := (([-1], [43], 0, 0, true, fun _ => false, false, false) : z_R)) (x := 116) d h hRB (by decide) (by decide) (by decide)) z_oqok ?_
  rintro _ _ ⟨rfl, Ie7, rfl, hRe7, hoe7⟩
  show eb_P _ _ 24 [(0, .ref i)] (.int (z_b2 (z_tt (nI 116) (([-1], [43], 0, 0, true, fun _ => false, false, false) : z_R)).isSome) :: []) (n, sl, kd, Ie7, L, Rf) _
  have o8 : z_only (z_rc i) I Ie7 := z_only.tr (o6) hoe7
  refine ep_pop dX5_beThePlainOne_24 rfl ?_
  have hRC : z_RI Ie7 i (([-1, -2], [43], 0, 0, false, fun _ => false, false, false) : z_R) := hRe7 _ (by rw [z_tt, if_neg (by decide), if_neg (by decide), if_neg (by decide), if_neg (by decide)]; rfl)
  refine ep_aload_n (i := 0) dX5_beThePlainOne_25 rfl rfl ?_
  refine ep_iconst (v := 0) dX5_beThePlainOne_26 (by decide) ?_
  refine ep_callV (M1 := mX5_release) (rest := []) dX5_beThePlainOne_27 mlX5_52 mvX5_release rfl (by have := h.2.2.2.2.2.2.2.2.2.1; omega) h.1 (Nat.le_of_ble_eq_true rfl) rfl (q_X5_release (R := (([-1, -2], [43], 0, 0, false, fun _ => false, false, false) : z_R)) (d + 3) h hRC (by decide) 0) z_rqok ?_
  rintro _ _ ⟨rfl, Ie9, rfl, hRe9, hoe9⟩
  show eb_P _ _ 30 [(0, .ref i)] [] (n, sl, kd, Ie9, L, Rf) _
  have o10 : z_only (z_rc i) I Ie9 := z_only.tr (o8) hoe9
  refine ep_vret dX5_beThePlainOne_30 rfl ?_
  exact ⟨rfl, _, rfl, hRe9, o10⟩
theorem z_nn (k : Nat) (h : k < 2147483648) : ¬ nI k = -1 := fun e => absurd (nI_pos' h) (by rw [e]; decide)
theorem z_isN {α : Type} {o : Option α} (h : z_b2 o.isSome = 0) : o = none := by cases o; rfl; exact absurd h (show ¬ z_b2 true = 0 by decide)
theorem z_rdl_le {t : Nat → Int32} {m : Nat} (R0 : z_R) : ∀ (j p : Nat) (R R1 : z_R), z_ok p R → p ≤ 40 → z_rdl t j p R = .inr R1 → R1.1.length + R1.2.1.length ≤ 40 := by
  intro j
  induction j with
  | zero => intro p R R1 h hp e; simp only [z_rdl, Sum.inr.injEq] at e; subst e; exact Nat.le_trans h.1 hp
  | succ j ih =>
    intro p R R1 h hp e
    rw [z_rdl] at e
    split at e
    · cases e
    · split at e
      · cases e
      · rename_i R2 h2
        exact ih (p + 1) R2 R1 (z_tk_ok h h2) (by omega) e
theorem q_X5_read {n : Nat} {sl : Nat × Nat} {kd : Nat → Nat × Nat} {I : Nat → Nat → Int32} {L : Nat → Nat → Int64} {Rf : Nat → Nat → Option Nat} (d : Nat) {i : Nat} (h : eb_rul n kd Rf i) {j : Nat} (g : eb_txt n kd Rf j) (hj : j + 1 < i ∨ i + 4 < j) {m : Nat} (hm : I j 1 = nI m) (hm8 : m ≤ 80) (hb : ∀ q, q < m → ∃ x, x < 256 ∧ I (j + 1) q = nI x)  : eb_Q mX5_read (d + 6) [.ref i, .ref j] (n, sl, kd, I, L, Rf) (z_rdq n sl kd L Rf I i (I (j + 1)) m) := by
  refine ep_meth pn_X.2.2.2.2.2.1 (Nat.le_of_ble_eq_true rfl) ?_
  show eb_P mX5_read (d + 6) 0 [(0, .ref i), (1, .ref j)] [] (n, sl, kd, I, L, Rf) _
  refine ep_aload_n (i := 1) dX5_read_0 rfl rfl ?_
  refine ep_getI dX5_read_1 flX5_28 (by have := g.2.2.2.1; omega) g.1 ?_
  refine ep_topE (y := nI m) hm ?_
  refine ep_if_ne (tgt := 13) dX5_read_4 (by decide) (fun c1 => ?_) (fun c1 => ?_)
  · skip
    have m1 : ¬ m = 0 := fun e7 => absurd (by rw [e7, nI_0]) c1
    refine ep_aload_n (i := 0) dX5_read_13 rfl rfl ?_
    refine ep_callV (M1 := mX5_begin) (rest := []) dX5_read_14 mlX5_34 mvX5_begin rfl (by have := h.2.2.2.2.2.2.2.2.2.1; omega) h.1 (Nat.le_of_ble_eq_true rfl) rfl (q_X5_begin (I := I) (d + 5) h) z_rqok ?_
    rintro _ _ ⟨rfl, Ie2, rfl, hRe2, hoe2⟩
    show eb_P _ _ 17 [(0, .ref i), (1, .ref j)] [] (n, sl, kd, Ie2, L, Rf) _
    have o3 : z_only (z_rc i) I Ie2 := z_only.tr (z_only.rf) hoe2
    refine ep_iconst (v := 0) dX5_read_17 (by decide) ?_
    refine ep_istore_n (l' := [(2, .int 0), (0, .ref i), (1, .ref j)]) dX5_read_18 rfl (by decide) rfl ?_
    have hj0 : ¬ z_rc i j := by unfold z_rc; omega
    have hj1 : ¬ z_rc i (j + 1) := by unfold z_rc; omega
    refine ep_eq (l2 := [(2, .int (nI 0)), (0, .ref i), (1, .ref j)]) rfl (by rw [nI_0]) rfl rfl ?_
    refine ep_for m (fun k (a : (Nat → Nat → Int32) × z_R) => ([(2, .int (nI k)), (0, .ref i), (1, .ref j)], (n, sl, kd, a.1, L, Rf))) (fun k a => z_RI a.1 i a.2 ∧ z_ok k a.2 ∧ z_only (z_rc i) I a.1 ∧ z_rdl (I (j + 1)) m 0 z_R0 = z_rdl (I (j + 1)) (m - k) k a.2) ?_ ?_ m 0 (Ie2, z_R0) (by omega) ⟨hRe2, z_ok0, o3, rfl⟩
    · intro k a hk hinv ih
      obtain ⟨Ik, R⟩ := a
      obtain ⟨hR, hok, hon, he⟩ := hinv
      simp only at hR hok hon he
      have hmk : Ik j 1 = nI m := by rw [hon j hj0]; exact hm
      obtain ⟨x, hx, hxe⟩ := hb k hk
      have hxk : Ik (j + 1) k = nI x := by rw [hon (j + 1) hj1]; exact hxe
      have hst : z_rdl (I (j + 1)) (m - k) k R = (if 40 ≤ k then .inl k else match z_tk (nI x) R with | none => .inl k | some R1 => z_rdl (I (j + 1)) (m - (k + 1)) (k + 1) R1) := by rw [show m - k = (m - (k + 1)) + 1 from by omega, z_rdl, hxe]
      show eb_P _ _ 19 [(2, .int (nI k)), (0, .ref i), (1, .ref j)] [] (n, sl, kd, Ik, L, Rf) _
      refine ep_iload_n (i := 2) dX5_read_19 rfl rfl ?_
      refine ep_aload_n (i := 1) dX5_read_20 rfl rfl ?_
      refine ep_getI dX5_read_21 flX5_28 (by have := g.2.2.2.1; omega) g.1 ?_
      refine ep_topE (y := nI m) hmk ?_
      refine ep_icmp_ge (tgt := 85) dX5_read_24 (by decide) (fun c4 => absurd c4 (nI_ge hk (by omega))) (fun c4 => ?_)
      refine ep_iload_n (i := 2) dX5_read_27 rfl rfl ?_
      refine ep_bipush (v := 40) dX5_read_28 (by decide) ?_
      refine ep_icmp_ge (tgt := 71) dX5_read_30 (by decide) (fun c5 => ?_) (fun c5 => ?_)
      · skip
        refine ep_iconst (v := 0) dX5_read_71 (by decide) ?_
        refine ep_istore_n (l' := [(3, .int 0), (2, .int (nI k)), (0, .ref i), (1, .ref j)]) dX5_read_72 rfl (by decide) rfl ?_
        refine ep_iload_n (i := 3) dX5_read_73 rfl rfl ?_
        refine ep_if_ne (tgt := 79) dX5_read_74 (by decide) (fun c6 => absurd c6 (by decide)) (fun c6 => ?_)
        refine ep_iload_n (i := 2) dX5_read_77 rfl rfl ?_
        refine ep_iret dX5_read_78 rfl rfl ?_
        have h40 : 40 ≤ k := Nat.le_of_not_lt (fun g7 => absurd (nI_ge g7 (by decide)) (by rw [show nI 40 = 40 from by decide]; exact fun e7 => e7 (by assumption)))
        have er : z_rda (I (j + 1)) m = nI k := by rw [z_rda, if_neg (by omega), he, hst, if_pos h40]
        exact ⟨by rw [er], _, rfl, fun e7 => absurd (er.symm.trans e7) (z_nn k (by omega)), hon⟩
      · skip
        have k40 : k < 40 := Nat.lt_of_not_le (fun g7 => absurd (nI_le (a := 40) g7 (by omega)) (by assumption))
        refine ep_aload_n (i := 0) dX5_read_33 rfl rfl ?_
        refine ep_getI dX5_read_34 flX5_37 (by have := h.2.2.2.2.2.2.2.2.2.1; omega) h.1 ?_
        refine ep_topE (y := z_b2 R.2.2.2.2.1) hR.2.2.2.2.1 ?_
        refine ep_if_eq (tgt := 55) dX5_read_37 (by decide) (fun c7 => ?_) (fun c7 => ?_)
        · skip
          refine ep_aload_n (i := 0) dX5_read_55 rfl rfl ?_
          refine ep_aload_n (i := 1) dX5_read_56 rfl rfl ?_
          refine ep_iload_n (i := 2) dX5_read_57 rfl rfl ?_
          refine ep_callV (M1 := mX9_at) (rest := [.ref i]) dX5_read_58 mlX5_41 mvX9_at rfl (by have := g.2.2.2.1; omega) g.1 (Nat.le_of_ble_eq_true rfl) rfl (q_X9_at_in (I := Ik) (d + 5) g hmk hm8 hk) eb_rok ?_
          rintro _ _ ⟨rfl, rfl⟩
          show eb_P _ _ 61 [(2, .int (nI k)), (0, .ref i), (1, .ref j)] (.int (Ik (j + 1) k) :: [.ref i]) _ _
          refine ep_topE (y := nI x) hxk ?_
          refine ep_callV (M1 := mX5_takeJoint) (rest := []) dX5_read_61 mlX5_49 mvX5_takeJoint rfl (by have := h.2.2.2.2.2.2.2.2.2.1; omega) h.1 (Nat.le_of_ble_eq_true rfl) rfl (q_X5_takeJoint (R := R) (d + 2) h hR (Nat.le_of_lt (Nat.lt_of_le_of_lt hok.1 k40)) (by have := hok.1; omega) hok.2.1 hok.2.2 (nI x)) z_oqok ?_
          rintro _ _ ⟨rfl, Ie8, rfl, hRe8, hoe8⟩
          show eb_P _ _ 64 [(2, .int (nI k)), (0, .ref i), (1, .ref j)] (.int (z_b2 (z_tj (nI x) R).isSome) :: []) (n, sl, kd, Ie8, L, Rf) _
          have o9 : z_only (z_rc i) I Ie8 := z_only.tr (hon) hoe8
          refine ep_if_eq (tgt := 71) dX5_read_64 (by decide) (fun c10 => ?_) (fun c10 => ?_)
          · skip
            refine ep_iconst (v := 0) dX5_read_71 (by decide) ?_
            refine ep_istore_n (l' := [(3, .int 0), (2, .int (nI k)), (0, .ref i), (1, .ref j)]) dX5_read_72 rfl (by decide) rfl ?_
            refine ep_iload_n (i := 3) dX5_read_73 rfl rfl ?_
            refine ep_if_ne (tgt := 79) dX5_read_74 (by decide) (fun c11 => absurd c11 (by decide)) (fun c11 => ?_)
            refine ep_iload_n (i := 2) dX5_read_77 rfl rfl ?_
            refine ep_iret dX5_read_78 rfl rfl ?_
            have htk : z_tk (nI x) R = z_tj (nI x) R := by rw [z_tk]; first | rw [if_pos (z_b2t (by assumption))] | rw [if_neg (z_b2z (by assumption))]
            have hn : z_tj (nI x) R = none := z_isN (by assumption)
            have er : z_rda (I (j + 1)) m = nI k := by rw [z_rda, if_neg (by omega), he, hst, if_neg (by omega), htk, hn]
            exact ⟨by rw [er], _, rfl, fun e7 => absurd (er.symm.trans e7) (z_nn k (by omega)), o9⟩
          · skip
            refine ep_iconst (v := 1) dX5_read_67 (by decide) ?_
            refine ep_goto (tgt := 72) dX5_read_68 (by decide) ?_
            refine ep_istore_n (l' := [(3, .int 1), (2, .int (nI k)), (0, .ref i), (1, .ref j)]) dX5_read_72 rfl (by decide) rfl ?_
            refine ep_iload_n (i := 3) dX5_read_73 rfl rfl ?_
            refine ep_if_ne (tgt := 79) dX5_read_74 (by decide) (fun c12 => ?_) (fun c12 => absurd (by decide) c12)
            refine ep_iinc (v := (nI (k + 1))) (l' := [(2, .int ((nI (k + 1)))), (3, .int 1), (0, .ref i), (1, .ref j)]) dX5_read_79 rfl (nI_1 _) (by decide) rfl ?_
            refine ep_goto (tgt := 19) dX5_read_82 (by decide) ?_
            have htk : z_tk (nI x) R = z_tj (nI x) R := by rw [z_tk]; first | rw [if_pos (z_b2t (by assumption))] | rw [if_neg (z_b2z (by assumption))]
            obtain ⟨R1, hR1⟩ := Option.isSome_iff_exists.mp (z_b2t (b := (z_tj (nI x) R).isSome) (by assumption))
            refine ep_sub (l' := [(2, .int ((nI (k + 1)))), (0, .ref i), (1, .ref j)]) [0, 2, 3] rfl ?_
            exact ih (Ie8, R1) ⟨hRe8 _ hR1, z_tk_ok hok (htk.trans hR1), o9, by rw [he, hst, if_neg (by omega), htk, hR1]⟩
        · skip
          refine ep_aload_n (i := 0) dX5_read_40 rfl rfl ?_
          refine ep_aload_n (i := 1) dX5_read_41 rfl rfl ?_
          refine ep_iload_n (i := 2) dX5_read_42 rfl rfl ?_
          refine ep_callV (M1 := mX9_at) (rest := [.ref i]) dX5_read_43 mlX5_41 mvX9_at rfl (by have := g.2.2.2.1; omega) g.1 (Nat.le_of_ble_eq_true rfl) rfl (q_X9_at_in (I := Ik) (d + 5) g hmk hm8 hk) eb_rok ?_
          rintro _ _ ⟨rfl, rfl⟩
          show eb_P _ _ 46 [(2, .int (nI k)), (0, .ref i), (1, .ref j)] (.int (Ik (j + 1) k) :: [.ref i]) _ _
          refine ep_topE (y := nI x) hxk ?_
          refine ep_callV (M1 := mX5_takeThing) (rest := []) dX5_read_46 mlX5_45 mvX5_takeThing rfl (by have := h.2.2.2.2.2.2.2.2.2.1; omega) h.1 (Nat.le_of_ble_eq_true rfl) rfl (q_X5_takeThing (R := R) (d + 1) h hR (Nat.lt_of_le_of_lt hok.1 k40) hok.2.1 hx) z_oqok ?_
          rintro _ _ ⟨rfl, Ie13, rfl, hRe13, hoe13⟩
          show eb_P _ _ 49 [(2, .int (nI k)), (0, .ref i), (1, .ref j)] (.int (z_b2 (z_tt (nI x) R).isSome) :: []) (n, sl, kd, Ie13, L, Rf) _
          have o14 : z_only (z_rc i) I Ie13 := z_only.tr (hon) hoe13
          refine ep_if_eq (tgt := 71) dX5_read_49 (by decide) (fun c15 => ?_) (fun c15 => ?_)
          · skip
            refine ep_iconst (v := 0) dX5_read_71 (by decide) ?_
            refine ep_istore_n (l' := [(3, .int 0), (2, .int (nI k)), (0, .ref i), (1, .ref j)]) dX5_read_72 rfl (by decide) rfl ?_
            refine ep_iload_n (i := 3) dX5_read_73 rfl rfl ?_
            refine ep_if_ne (tgt := 79) dX5_read_74 (by decide) (fun c16 => absurd c16 (by decide)) (fun c16 => ?_)
            refine ep_iload_n (i := 2) dX5_read_77 rfl rfl ?_
            refine ep_iret dX5_read_78 rfl rfl ?_
            have htk : z_tk (nI x) R = z_tt (nI x) R := by rw [z_tk]; first | rw [if_pos (z_b2t (by assumption))] | rw [if_neg (z_b2z (by assumption))]
            have hn : z_tt (nI x) R = none := z_isN (by assumption)
            have er : z_rda (I (j + 1)) m = nI k := by rw [z_rda, if_neg (by omega), he, hst, if_neg (by omega), htk, hn]
            exact ⟨by rw [er], _, rfl, fun e7 => absurd (er.symm.trans e7) (z_nn k (by omega)), o14⟩
          · skip
            refine ep_goto (tgt := 67) dX5_read_52 (by decide) ?_
            refine ep_iconst (v := 1) dX5_read_67 (by decide) ?_
            refine ep_goto (tgt := 72) dX5_read_68 (by decide) ?_
            refine ep_istore_n (l' := [(3, .int 1), (2, .int (nI k)), (0, .ref i), (1, .ref j)]) dX5_read_72 rfl (by decide) rfl ?_
            refine ep_iload_n (i := 3) dX5_read_73 rfl rfl ?_
            refine ep_if_ne (tgt := 79) dX5_read_74 (by decide) (fun c17 => ?_) (fun c17 => absurd (by decide) c17)
            refine ep_iinc (v := (nI (k + 1))) (l' := [(2, .int ((nI (k + 1)))), (3, .int 1), (0, .ref i), (1, .ref j)]) dX5_read_79 rfl (nI_1 _) (by decide) rfl ?_
            refine ep_goto (tgt := 19) dX5_read_82 (by decide) ?_
            have htk : z_tk (nI x) R = z_tt (nI x) R := by rw [z_tk]; first | rw [if_pos (z_b2t (by assumption))] | rw [if_neg (z_b2z (by assumption))]
            obtain ⟨R1, hR1⟩ := Option.isSome_iff_exists.mp (z_b2t (b := (z_tt (nI x) R).isSome) (by assumption))
            refine ep_sub (l' := [(2, .int ((nI (k + 1)))), (0, .ref i), (1, .ref j)]) [0, 2, 3] rfl ?_
            exact ih (Ie13, R1) ⟨hRe13 _ hR1, z_tk_ok hok (htk.trans hR1), o14, by rw [he, hst, if_neg (by omega), htk, hR1]⟩
    · intro a hinv
      obtain ⟨Ik, R⟩ := a
      obtain ⟨hR, hok, hon, he⟩ := hinv
      simp only at hR hok hon he
      rw [Nat.sub_self] at he
      have hmk : Ik j 1 = nI m := by rw [hon j hj0]; exact hm
      show eb_P _ _ 19 [(2, .int (nI m)), (0, .ref i), (1, .ref j)] [] (n, sl, kd, Ik, L, Rf) _
      refine ep_iload_n (i := 2) dX5_read_19 rfl rfl ?_
      refine ep_aload_n (i := 1) dX5_read_20 rfl rfl ?_
      refine ep_getI dX5_read_21 flX5_28 (by have := g.2.2.2.1; omega) g.1 ?_
      refine ep_topE (y := nI m) hmk ?_
      refine ep_icmp_ge (tgt := 85) dX5_read_24 (by decide) (fun c18 => ?_) (fun c18 => absurd (nI_le (Nat.le_refl _) (by omega)) c18)
      have hl0 : R.1.length + R.2.1.length ≤ 40 := z_rdl_le (m := m) z_R0 m 0 z_R0 R ⟨by decide, by decide, by decide⟩ (by omega) (he.trans rfl)
      refine ep_aload_n (i := 0) dX5_read_85 rfl rfl ?_
      refine ep_iconst (v := 0) dX5_read_86 (by decide) ?_
      refine ep_callV (M1 := mX5_release) (rest := []) dX5_read_87 mlX5_52 mvX5_release rfl (by have := h.2.2.2.2.2.2.2.2.2.1; omega) h.1 (Nat.le_of_ble_eq_true rfl) rfl (q_X5_release (R := R) (d + 4) h hR hl0 0) z_rqok ?_
      rintro _ _ ⟨rfl, Ie19, rfl, hRe19, hoe19⟩
      show eb_P _ _ 90 [(2, .int (nI m)), (0, .ref i), (1, .ref j)] [] (n, sl, kd, Ie19, L, Rf) _
      have o20 : z_only (z_rc i) I Ie19 := z_only.tr (hon) hoe19
      refine ep_aload_n (i := 0) dX5_read_90 rfl rfl ?_
      refine ep_getI dX5_read_91 flX5_37 (by have := h.2.2.2.2.2.2.2.2.2.1; omega) h.1 ?_
      refine ep_topE (y := z_b2 R.2.2.2.2.1) hRe19.2.2.2.2.1 ?_
      refine ep_if_ne (tgt := 104) dX5_read_94 (by decide) (fun c21 => ?_) (fun c21 => ?_)
      · skip
        refine ep_aload_n (i := 1) dX5_read_104 rfl rfl ?_
        refine ep_getI dX5_read_105 flX5_28 (by have := g.2.2.2.1; omega) g.1 ?_
        refine ep_topE (y := nI m) (by rw [o20 j hj0]; exact hm) ?_
        refine ep_goto (tgt := 112) dX5_read_108 (by decide) ?_
        refine ep_iret dX5_read_112 rfl rfl ?_
        have er : z_rda (I (j + 1)) m = nI m := by rw [z_rda, if_neg (by omega), he]; show (if R.2.2.2.2.1 = true ∨ 0 < R.2.2.1 then nI m else -1) = nI m; rw [if_pos (by first | exact Or.inl (z_b2t (by assumption)) | exact Or.inr (Nat.pos_of_ne_zero (fun g7 => absurd (show nI R.2.2.1 ≤ 0 by rw [g7]; decide) (by assumption))))]
        exact ⟨by rw [er], _, rfl, fun e7 => absurd (er.symm.trans e7) (z_nn m (by omega)), o20⟩
      · skip
        refine ep_aload_n (i := 0) dX5_read_97 rfl rfl ?_
        refine ep_getI dX5_read_98 flX5_56 (by have := h.2.2.2.2.2.2.2.2.2.1; omega) h.1 ?_
        refine ep_topE (y := nI R.2.2.1) hRe19.2.2.1 ?_
        refine ep_if_le (tgt := 111) dX5_read_101 (by decide) (fun c22 => ?_) (fun c22 => ?_)
        · skip
          refine ep_iconst (v := (-1)) dX5_read_111 (by decide) ?_
          refine ep_iret dX5_read_112 rfl rfl ?_
          have er : z_rda (I (j + 1)) m = -1 := by rw [z_rda, if_neg (by omega), he]; show (if R.2.2.2.2.1 = true ∨ 0 < R.2.2.1 then nI m else -1) = -1; rw [if_neg (by rintro (g7 | g7); exact absurd (show z_b2 R.2.2.2.2.1 ≠ 0 by rw [g7]; decide) (by assumption); exact absurd (nI_lt (a := 0) g7 (by have := hok.2.1; omega)) (by rw [nI_0]; exact Int32.not_lt.mpr (by assumption)))]
          exact ⟨by rw [er], _, rfl, fun _ => (by rw [z_rdR, if_neg (by omega), he]; exact hRe19), o20⟩
        · skip
          refine ep_aload_n (i := 1) dX5_read_104 rfl rfl ?_
          refine ep_getI dX5_read_105 flX5_28 (by have := g.2.2.2.1; omega) g.1 ?_
          refine ep_topE (y := nI m) (by rw [o20 j hj0]; exact hm) ?_
          refine ep_goto (tgt := 112) dX5_read_108 (by decide) ?_
          refine ep_iret dX5_read_112 rfl rfl ?_
          have er : z_rda (I (j + 1)) m = nI m := by rw [z_rda, if_neg (by omega), he]; show (if R.2.2.2.2.1 = true ∨ 0 < R.2.2.1 then nI m else -1) = nI m; rw [if_pos (by first | exact Or.inl (z_b2t (by assumption)) | exact Or.inr (Nat.pos_of_ne_zero (fun g7 => absurd (show nI R.2.2.1 ≤ 0 by rw [g7]; decide) (by assumption))))]
          exact ⟨by rw [er], _, rfl, fun e7 => absurd (er.symm.trans e7) (z_nn m (by omega)), o20⟩
  · skip
    refine ep_aload_n (i := 0) dX5_read_7 rfl rfl ?_
    refine ep_callV (M1 := mX5_beThePlainOne) (rest := []) dX5_read_8 mlX5_25 mvX5_beThePlainOne rfl (by have := h.2.2.2.2.2.2.2.2.2.1; omega) h.1 (Nat.le_of_ble_eq_true rfl) rfl (q_X5_beThePlainOne (I := I) d h) z_rqok ?_
    rintro _ _ ⟨rfl, Ie23, rfl, hRe23, hoe23⟩
    show eb_P _ _ 11 [(0, .ref i), (1, .ref j)] [] (n, sl, kd, Ie23, L, Rf) _
    have o24 : z_only (z_rc i) I Ie23 := z_only.tr (z_only.rf) hoe23
    refine ep_iconst (v := (-1)) dX5_read_11 (by decide) ?_
    refine ep_iret dX5_read_12 rfl rfl ?_
    have m0 : m = 0 := nI_inj0 (Classical.not_not.mp c1) (by omega)
    subst m0
    exact ⟨rfl, _, rfl, fun _ => hRe23, o24⟩
