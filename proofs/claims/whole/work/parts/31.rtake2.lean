/-! Rule.open, lengthenNumber, close, takeThing, takeJoint -/
/-- a take: the state behind it, or none where the sign can't stand there -/
def z_oq (n : Nat) (sl : Nat × Nat) (kd : Nat → Nat × Nat) (L : Nat → Nat → Int64) (Rf : Nat → Nat → Option Nat) (I : Nat → Nat → Int32) (i : Nat) (o : Option z_R) : Option Value → eb_S → Prop := fun r τ => r = some (.int (z_b2 o.isSome)) ∧ ∃ I1, τ = (n, sl, kd, I1, L, Rf) ∧ (∀ R, o = some R → z_RI I1 i R) ∧ z_only (z_rc i) I I1
theorem z_oqok {n : Nat} {sl : Nat × Nat} {kd : Nat → Nat × Nat} {L : Nat → Nat → Int64} {Rf : Nat → Nat → Option Nat} {I : Nat → Nat → Int32} {i : Nat} {R : Option z_R} {l : List (Nat × Value)} {rest : List Value} : ∀ r1 σ1, z_oq n sl kd L Rf I i R r1 σ1 → σ1.1 = n ∨ ((∀ q ∈ l, eb_okv n q.2) ∧ ∀ v ∈ rest, eb_okv n v) := fun _ _ ⟨_, _, h, _⟩ => Or.inl (by rw [h])
def z_op (R : z_R) : Option z_R := if 4 ≤ R.2.2.1 then none else some (R.1, 40 :: R.2.1, R.2.2.1 + 1, R.2.2.2.1, R.2.2.2.2.1, (fun q => if q = R.2.2.1 + 1 then false else R.2.2.2.2.2.1 q), R.2.2.2.2.2.2)
def z_ln3 (x : Int32) (R : z_R) : Option z_R := if R.2.2.2.1 = 0 ∨ R.2.2.2.1 = 3 ∨ R.1 = [] then none else some (R.1.dropLast ++ [R.1.getD (R.1.length - 1) 0 * 10 + x], R.2.1, R.2.2.1, R.2.2.2.1 + 1, R.2.2.2.2)
def z_cl (R : z_R) : Option z_R := if R.2.2.1 = 0 then none else some ((z_rel 0 R).1, (z_rel 0 R).2.1.tail, R.2.2.1 - 1, 0, R.2.2.2.2)
theorem z_lay_tail {f : Nat → Int32} {u : List Int32} (h : z_lay f u) : z_lay f u.tail := by
  cases u with
  | nil => exact h
  | cons x u => exact z_lay_tl h
theorem z_getD_snoc (l : List Int32) (x : Int32) (k : Nat) : (l ++ [x]).getD k 0 = if k < l.length then l.getD k 0 else if k = l.length then x else 0 := by
  by_cases h : k < l.length
  · rw [if_pos h]; simp [List.getD, List.getElem?_append_left h]
  · rw [if_neg h]
    by_cases e : k = l.length
    · rw [if_pos e]; subst e; simp [List.getD]
    · rw [if_neg e]; simp [List.getD, List.getElem?_append_right (Nat.le_of_not_lt h)]; rw [List.getElem?_eq_none (by simp; omega)]; rfl
theorem z_dropLast_getD (l : List Int32) {k : Nat} (h : k < l.length - 1) : l.dropLast.getD k 0 = l.getD k 0 := by
  simp [List.getD, List.getElem?_dropLast, h]
  rw [List.getElem?_eq_getElem (by omega)]; rfl
theorem z_nIinj {a b : Nat} (h : nI a = nI b) (ha : a < 2147483648) (hb : b < 2147483648) : a = b := by
  have := congrArg Int32.toNatClampNeg h
  rwa [nI_clamp ha, nI_clamp hb] at this
theorem q_X5_open {n : Nat} {sl : Nat × Nat} {kd : Nat → Nat × Nat} {I : Nat → Nat → Int32} {L : Nat → Nat → Int64} {Rf : Nat → Nat → Option Nat} (d : Nat) {i : Nat} (h : eb_rul n kd Rf i) {R : z_R} (hR : z_RI I i R) (hl : R.2.1.length < 40) (hdp : R.2.2.1 ≤ 4) : eb_Q mX5_open (d + 1) [.ref i] (n, sl, kd, I, L, Rf) (z_oq n sl kd L Rf I i (z_op R)) := by
  refine ep_meth pn_X.2.2.2.2.2.1 (Nat.le_of_ble_eq_true rfl) ?_
  show eb_P mX5_open (d + 1) 0 [(0, .ref i)] [] (n, sl, kd, I, L, Rf) _
  refine ep_aload_n (i := 0) dX5_open_0 rfl rfl ?_
  refine ep_getI dX5_open_1 flX5_56 (by have := h.2.2.2.2.2.2.2.2.2.1; omega) h.1 ?_
  refine ep_topE (y := nI R.2.2.1) hR.2.2.1 ?_
  refine ep_iconst (v := 4) dX5_open_4 (by decide) ?_
  refine ep_icmp_lt (tgt := 10) dX5_open_5 (by decide) (fun c1 => ?_) (fun c1 => ?_)
  · skip
    have hd4 : R.2.2.1 < 4 := Nat.lt_of_not_le (fun g => absurd c1 (Int32.not_lt.mpr (nI_le (a := 4) g (by have := hdp; omega))))
    have eo : z_op R = some (R.1, 40 :: R.2.1, R.2.2.1 + 1, R.2.2.2.1, R.2.2.2.2.1, (fun q => if q = R.2.2.1 + 1 then false else R.2.2.2.2.2.1 q), R.2.2.2.2.2.2) := by rw [z_op, if_neg (by omega)]
    refine ep_aload_n (i := 0) dX5_open_10 rfl rfl ?_
    refine ep_dup dX5_open_11 rfl ?_
    refine ep_getI dX5_open_12 flX5_56 (by have := h.2.2.2.2.2.2.2.2.2.1; omega) h.1 ?_
    refine ep_topE (y := nI R.2.2.1) hR.2.2.1 ?_
    refine ep_iconst (v := 1) dX5_open_15 (by decide) ?_
    refine ep_iadd dX5_open_16 ?_
    refine ep_topE (y := nI (R.2.2.1 + 1)) (nI_1 _) ?_
    refine ep_pI dX5_open_17 plX5_56 (by have := h.2.2.2.2.2.2.2.2.2.1; omega) (by have := h.2.2.2.2.2.2.2.2.2; omega) h.1 rfl rfl ?_
    refine ep_nmI (fun I2 hI2 => ?_)
    have o3 : z_only (z_rc i) I I2 := fun b hb => by rw [hI2, z_set_ne (fun e => hb (by unfold z_rc; omega))]
    refine ep_aload_n (i := 0) dX5_open_20 rfl rfl ?_
    refine ep_getR dX5_open_21 flX5_21 (by have := h.2.2.2.2.2.2.2.2.2.1; omega) h.1 h.2.2.2.2.2.2.2.2.1 ?_
    refine ep_aload_n (i := 0) dX5_open_24 rfl rfl ?_
    refine ep_getI dX5_open_25 flX5_56 (by have := h.2.2.2.2.2.2.2.2.2.1; omega) h.1 ?_
    refine ep_topE (y := nI (R.2.2.1 + 1)) (by simp [hI2, z_set]) ?_
    refine ep_iconst (v := 0) dX5_open_28 (by decide) ?_
    refine ep_zsN (k := (R.2.2.1 + 1)) dX5_open_29 (by have := h.2.2.2.2.2.2.2.2.2.1; omega) (by have := h.2.2.2.2.2.2.2.2.2; omega) h.2.2.2.2.1 (by omega) (by decide) ?_
    refine ep_nmI (fun I4 hI4 => ?_)
    have o5 : z_only (z_rc i) I I4 := z_only.tr (o3) (fun b hb => by rw [hI4, z_set_ne (fun e => hb (by unfold z_rc; omega))])
    refine ep_aload_n (i := 0) dX5_open_30 rfl rfl ?_
    refine ep_bipush (v := 40) dX5_open_31 (by decide) ?_
    refine ep_callV (M1 := mX5_hold) (rest := []) dX5_open_33 mlX5_76 mvX5_hold rfl (by have := h.2.2.2.2.2.2.2.2.2.1; omega) h.1 (Nat.le_of_ble_eq_true rfl) rfl (q_X5_hold (R := (R.1, R.2.1, R.2.2.1 + 1, R.2.2.2.1, R.2.2.2.2.1, (fun q => if q = R.2.2.1 + 1 then false else R.2.2.2.2.2.1 q), R.2.2.2.2.2.2)) d h (by obtain ⟨⟨a1, a2⟩, ⟨a3, a4⟩, a5, a6, a7, a8, a9, a10⟩ := hR; exact ⟨⟨by simpa [hI2, hI4, z_set, z_rel] using a1, fun k hk => by rw [show I4 (i + 1) = I (i + 1) from by rw [hI4, z_set_ne (by omega), hI2, z_set_ne (by omega)]]; exact a2 k hk⟩, ⟨by simpa [hI2, hI4, z_set, z_rel] using a3, by rw [show I4 (i + 2) = I (i + 2) from by rw [hI4, z_set_ne (by omega), hI2, z_set_ne (by omega)]]; exact a4⟩, by simp [hI2, hI4, z_set], by simpa [hI2, hI4, z_set, z_rel] using a6, by simpa [hI2, hI4, z_set, z_rel] using a7, by intro q hq; have hq : q ≤ R.2.2.1 + 1 := hq; show I4 (i + 4) q = z_b2 (if q = R.2.2.1 + 1 then false else R.2.2.2.2.2.1 q); by_cases e : q = R.2.2.1 + 1; (subst e; simp [hI2, hI4, z_set, z_b2]; decide); (simp [hI2, hI4, z_set, e]; exact a8 q (by omega)), by simpa [hI2, hI4, z_set, z_rel] using a9, by simpa [hI2, hI4, z_set, z_rel] using a10⟩) hl 40) z_rqok ?_
    rintro _ _ ⟨rfl, Ie6, rfl, hRe6, hoe6⟩
    show eb_P _ _ 36 [(0, .ref i)] [] (n, sl, kd, Ie6, L, Rf) _
    have o7 : z_only (z_rc i) I Ie6 := z_only.tr (o5) hoe6
    refine ep_iconst (v := 1) dX5_open_36 (by decide) ?_
    refine ep_iret dX5_open_37 rfl rfl ?_
    exact ⟨by rw [eo]; rfl, _, rfl, fun _ g => (by rw [eo] at g; cases g; exact hRe6), o7⟩
  · skip
    refine ep_iconst (v := 0) dX5_open_8 (by decide) ?_
    refine ep_iret dX5_open_9 rfl rfl ?_
    have e : z_op R = none := by rw [z_op, if_pos (Nat.le_of_not_lt (fun g => absurd (nI_lt (b := 4) g (by decide)) c1))]
    exact ⟨by rw [e]; rfl, _, rfl, fun _ g => (by rw [e] at g; cases g), z_only.rf⟩
theorem nI_inj0 {k : Nat} (h : nI k = 0) (hk : k < 2147483648) : k = 0 := z_nIinj (by rw [h, nI_0]) hk (by decide)
theorem nI_inj3 {k : Nat} (h : nI k = 3) (hk : k < 2147483648) : k = 3 := z_nIinj (by rw [h]; decide) hk (by decide)
theorem q_X5_lengthenNumber {n : Nat} {sl : Nat × Nat} {kd : Nat → Nat × Nat} {I : Nat → Nat → Int32} {L : Nat → Nat → Int64} {Rf : Nat → Nat → Option Nat} (d : Nat) {i : Nat} (h : eb_rul n kd Rf i) {R : z_R} (hR : z_RI I i R) (hl : R.1.length ≤ 40) (hg : R.2.2.2.1 ≤ 3) (x : Int32) : eb_Q mX5_lengthenNumber d [.ref i, .int x] (n, sl, kd, I, L, Rf) (z_oq n sl kd L Rf I i (z_ln3 x R)) := by
  refine ep_meth pn_X.2.2.2.2.2.1 (Nat.le_of_ble_eq_true rfl) ?_
  show eb_P mX5_lengthenNumber (d) 0 [(0, .ref i), (1, .int x)] [] (n, sl, kd, I, L, Rf) _
  refine ep_aload_n (i := 0) dX5_lengthenNumber_0 rfl rfl ?_
  refine ep_getI dX5_lengthenNumber_1 flX5_67 (by have := h.2.2.2.2.2.2.2.2.2.1; omega) h.1 ?_
  refine ep_topE (y := nI R.2.2.2.1) hR.2.2.2.1 ?_
  refine ep_if_eq (tgt := 22) dX5_lengthenNumber_4 (by decide) (fun c1 => ?_) (fun c1 => ?_)
  · skip
    refine ep_iconst (v := 0) dX5_lengthenNumber_22 (by decide) ?_
    refine ep_iret dX5_lengthenNumber_23 rfl rfl ?_
    have e : z_ln3 x R = none := by rw [z_ln3, if_pos (by first | exact Or.inl (nI_inj0 (by assumption) (by omega)) | exact Or.inr (Or.inl (nI_inj3 (by assumption) (by omega))) | exact Or.inr (Or.inr (List.length_eq_zero_iff.mp (nI_inj0 (Classical.not_not.mp (by assumption)) (by omega)))))]
    exact ⟨by rw [e]; rfl, _, rfl, fun _ g => (by rw [e] at g; cases g), z_only.rf⟩
  · skip
    refine ep_aload_n (i := 0) dX5_lengthenNumber_7 rfl rfl ?_
    refine ep_getI dX5_lengthenNumber_8 flX5_67 (by have := h.2.2.2.2.2.2.2.2.2.1; omega) h.1 ?_
    refine ep_topE (y := nI R.2.2.2.1) hR.2.2.2.1 ?_
    refine ep_iconst (v := 3) dX5_lengthenNumber_11 (by decide) ?_
    refine ep_icmp_eq (tgt := 22) dX5_lengthenNumber_12 (by decide) (fun c2 => ?_) (fun c2 => ?_)
    · skip
      refine ep_iconst (v := 0) dX5_lengthenNumber_22 (by decide) ?_
      refine ep_iret dX5_lengthenNumber_23 rfl rfl ?_
      have e : z_ln3 x R = none := by rw [z_ln3, if_pos (by first | exact Or.inl (nI_inj0 (by assumption) (by omega)) | exact Or.inr (Or.inl (nI_inj3 (by assumption) (by omega))) | exact Or.inr (Or.inr (List.length_eq_zero_iff.mp (nI_inj0 (Classical.not_not.mp (by assumption)) (by omega)))))]
      exact ⟨by rw [e]; rfl, _, rfl, fun _ g => (by rw [e] at g; cases g), z_only.rf⟩
    · skip
      refine ep_aload_n (i := 0) dX5_lengthenNumber_15 rfl rfl ?_
      refine ep_getI dX5_lengthenNumber_16 flX5_59 (by have := h.2.2.2.2.2.2.2.2.2.1; omega) h.1 ?_
      refine ep_topE (y := nI R.1.length) hR.1.1 ?_
      refine ep_if_ne (tgt := 24) dX5_lengthenNumber_19 (by decide) (fun c3 => ?_) (fun c3 => ?_)
      · skip
        have n0 : ¬ R.2.2.2.1 = 0 := fun e => absurd (by rw [e, nI_0]) c1
        have n3 : ¬ R.2.2.2.1 = 3 := fun e => absurd (by rw [e]; decide) c2
        have nz : ¬ R.1.length = 0 := fun e => absurd (by rw [e, nI_0]) c3
        have nz1 : 1 ≤ R.1.length := by omega
        refine ep_aload_n (i := 0) dX5_lengthenNumber_24 rfl rfl ?_
        refine ep_getR dX5_lengthenNumber_25 flX5_11 (by have := h.2.2.2.2.2.2.2.2.2.1; omega) h.1 h.2.2.2.2.2.1 ?_
        refine ep_aload_n (i := 0) dX5_lengthenNumber_28 rfl rfl ?_
        refine ep_getI dX5_lengthenNumber_29 flX5_59 (by have := h.2.2.2.2.2.2.2.2.2.1; omega) h.1 ?_
        refine ep_topE (y := nI R.1.length) hR.1.1 ?_
        refine ep_iconst (v := 1) dX5_lengthenNumber_32 (by decide) ?_
        refine ep_isub dX5_lengthenNumber_33 ?_
        refine ep_topE (y := nI (R.1.length - 1)) (by rw [show (1 : Int32) = nI 1 from by decide, pk_sub (by omega)]) ?_
        refine ep_aload_n (i := 0) dX5_lengthenNumber_34 rfl rfl ?_
        refine ep_getR dX5_lengthenNumber_35 flX5_11 (by have := h.2.2.2.2.2.2.2.2.2.1; omega) h.1 h.2.2.2.2.2.1 ?_
        refine ep_aload_n (i := 0) dX5_lengthenNumber_38 rfl rfl ?_
        refine ep_getI dX5_lengthenNumber_39 flX5_59 (by have := h.2.2.2.2.2.2.2.2.2.1; omega) h.1 ?_
        refine ep_topE (y := nI R.1.length) hR.1.1 ?_
        refine ep_iconst (v := 1) dX5_lengthenNumber_42 (by decide) ?_
        refine ep_isub dX5_lengthenNumber_43 ?_
        refine ep_topE (y := nI (R.1.length - 1)) (by rw [show (1 : Int32) = nI 1 from by decide, pk_sub (by omega)]) ?_
        refine ep_iaN (k := (R.1.length - 1)) dX5_lengthenNumber_44 (by have := h.2.2.2.2.2.2.2.2.2.1; omega) h.2.1 (by omega) (by decide) ?_
        refine ep_bipush (v := 10) dX5_lengthenNumber_45 (by decide) ?_
        refine ep_imul dX5_lengthenNumber_47 ?_
        refine ep_iload_n (i := 1) dX5_lengthenNumber_48 rfl rfl ?_
        refine ep_iadd dX5_lengthenNumber_49 ?_
        refine ep_topi (fun v hv => ?_)
        refine ep_isN (k := (R.1.length - 1)) dX5_lengthenNumber_50 (by have := h.2.2.2.2.2.2.2.2.2.1; omega) (by have := h.2.2.2.2.2.2.2.2.2; omega) h.2.1 (by omega) (by decide) ?_
        refine ep_nmI (fun I4 hI4 => ?_)
        have o5 : z_only (z_rc i) I I4 := fun b hb => by rw [hI4, z_set_ne (fun e => hb (by unfold z_rc; omega))]
        refine ep_aload_n (i := 0) dX5_lengthenNumber_51 rfl rfl ?_
        refine ep_dup dX5_lengthenNumber_52 rfl ?_
        refine ep_getI dX5_lengthenNumber_53 flX5_67 (by have := h.2.2.2.2.2.2.2.2.2.1; omega) h.1 ?_
        refine ep_topE (y := nI R.2.2.2.1) (by simpa [hI4, z_set] using hR.2.2.2.1) ?_
        refine ep_iconst (v := 1) dX5_lengthenNumber_56 (by decide) ?_
        refine ep_iadd dX5_lengthenNumber_57 ?_
        refine ep_topE (y := nI (R.2.2.2.1 + 1)) (nI_1 _) ?_
        refine ep_pI dX5_lengthenNumber_58 plX5_67 (by have := h.2.2.2.2.2.2.2.2.2.1; omega) (by have := h.2.2.2.2.2.2.2.2.2; omega) h.1 rfl rfl ?_
        refine ep_nmI (fun I6 hI6 => ?_)
        have o7 : z_only (z_rc i) I I6 := z_only.tr (o5) (fun b hb => by rw [hI6, z_set_ne (fun e => hb (by unfold z_rc; omega))])
        refine ep_iconst (v := 1) dX5_lengthenNumber_61 (by decide) ?_
        refine ep_iret dX5_lengthenNumber_62 rfl rfl ?_
        have e : z_ln3 x R = some (R.1.dropLast ++ [R.1.getD (R.1.length - 1) 0 * 10 + x], R.2.1, R.2.2.1, R.2.2.2.1 + 1, R.2.2.2.2) := by rw [z_ln3, if_neg (by rintro (g | g | g); exact absurd g n0; exact absurd g n3; exact absurd (by rw [g]; rfl) nz)]
        exact ⟨by rw [e]; rfl, _, rfl, fun _ g => (by rw [e] at g; cases g; obtain ⟨⟨a1, a2⟩, ⟨a3, a4⟩, a5, a6, a7, a8, a9, a10⟩ := hR; exact ⟨⟨by simp [hI4, hI6, z_set, List.length_dropLast]; rw [a1]; congr 1; omega, by intro k hk; have hk : k < (R.1.dropLast ++ [R.1.getD (R.1.length - 1) 0 * 10 + x]).length := hk; show I6 (i + 1) k = (R.1.dropLast ++ [R.1.getD (R.1.length - 1) 0 * 10 + x]).getD k 0; rw [z_getD_snoc, List.length_dropLast]; simp only [List.length_append, List.length_dropLast, List.length_cons, List.length_nil] at hk; by_cases e : k = R.1.length - 1; (rw [if_neg (by omega), if_pos e, e, show I6 (i + 1) (R.1.length - 1) = v from by simp [hI4, hI6, z_set], hv, a2 (R.1.length - 1) (by omega)]); (rw [if_pos (by omega), z_dropLast_getD _ (by omega)]; simp only [hI4, hI6, z_set]; simp [e]; exact a2 k (by omega))⟩, ⟨by simpa [hI4, hI6, z_set, z_rel] using a3, by rw [show I6 (i + 2) = I (i + 2) from by rw [hI6, z_set_ne (by omega), hI4, z_set_ne (by omega)]]; exact a4⟩, by simpa [hI4, hI6, z_set, z_rel] using a5, by simp [hI4, hI6, z_set], by simpa [hI4, hI6, z_set, z_rel] using a7, fun q hq => by rw [show I6 (i + 4) = I (i + 4) from by rw [hI6, z_set_ne (by omega), hI4, z_set_ne (by omega)]]; exact a8 q hq, by simpa [hI4, hI6, z_set, z_rel] using a9, by simpa [hI4, hI6, z_set, z_rel] using a10⟩), o7⟩
      · skip
        refine ep_iconst (v := 0) dX5_lengthenNumber_22 (by decide) ?_
        refine ep_iret dX5_lengthenNumber_23 rfl rfl ?_
        have e : z_ln3 x R = none := by rw [z_ln3, if_pos (by first | exact Or.inl (nI_inj0 (by assumption) (by omega)) | exact Or.inr (Or.inl (nI_inj3 (by assumption) (by omega))) | exact Or.inr (Or.inr (List.length_eq_zero_iff.mp (nI_inj0 (Classical.not_not.mp (by assumption)) (by omega)))))]
        exact ⟨by rw [e]; rfl, _, rfl, fun _ g => (by rw [e] at g; cases g), z_only.rf⟩
theorem z_mxl {l : List Int32} (h : l.length < 2147483648) : (if (0 : Int32) < nI l.length - 1 then nI l.length - 1 else 0) = nI l.tail.length := by
  cases l with
  | nil => decide
  | cons x l =>
    have e : nI (x :: l).length - 1 = nI l.length := by
      rw [List.length_cons, show (1 : Int32) = nI 1 from by decide, pk_sub (by omega)]; rfl
    rw [e]
    show _ = nI l.length
    rw [List.length_cons] at h
    by_cases g : l.length = 0
    · rw [g]; decide
    · rw [if_pos]
      have := nI_lt (a := 0) (b := l.length) (by omega) (by omega)
      rwa [nI_0] at this
theorem q_X5_close {n : Nat} {sl : Nat × Nat} {kd : Nat → Nat × Nat} {I : Nat → Nat → Int32} {L : Nat → Nat → Int64} {Rf : Nat → Nat → Option Nat} (d : Nat) {i : Nat} (h : eb_rul n kd Rf i) {R : z_R} (hR : z_RI I i R) (hl : R.1.length + R.2.1.length ≤ 40) (hdp : R.2.2.1 ≤ 4) : eb_Q mX5_close (d + 2) [.ref i] (n, sl, kd, I, L, Rf) (z_oq n sl kd L Rf I i (z_cl R)) := by
  refine ep_meth pn_X.2.2.2.2.2.1 (Nat.le_of_ble_eq_true rfl) ?_
  show eb_P mX5_close (d + 2) 0 [(0, .ref i)] [] (n, sl, kd, I, L, Rf) _
  refine ep_aload_n (i := 0) dX5_close_0 rfl rfl ?_
  refine ep_getI dX5_close_1 flX5_56 (by have := h.2.2.2.2.2.2.2.2.2.1; omega) h.1 ?_
  refine ep_topE (y := nI R.2.2.1) hR.2.2.1 ?_
  refine ep_if_ne (tgt := 9) dX5_close_4 (by decide) (fun c1 => ?_) (fun c1 => ?_)
  · skip
    have n0 : ¬ R.2.2.1 = 0 := fun e => absurd (by rw [e, nI_0]) c1
    refine ep_aload_n (i := 0) dX5_close_9 rfl rfl ?_
    refine ep_iconst (v := 0) dX5_close_10 (by decide) ?_
    refine ep_callV (M1 := mX5_release) (rest := []) dX5_close_11 mlX5_52 mvX5_release rfl (by have := h.2.2.2.2.2.2.2.2.2.1; omega) h.1 (Nat.le_of_ble_eq_true rfl) rfl (q_X5_release d h hR hl 0) z_rqok ?_
    rintro _ _ ⟨rfl, Ie2, rfl, hRe2, hoe2⟩
    show eb_P _ _ 14 [(0, .ref i)] [] (n, sl, kd, Ie2, L, Rf) _
    have o3 : z_only (z_rc i) I Ie2 := z_only.tr (z_only.rf) hoe2
    refine ep_aload_n (i := 0) dX5_close_14 rfl rfl ?_
    refine ep_iconst (v := 0) dX5_close_15 (by decide) ?_
    refine ep_aload_n (i := 0) dX5_close_16 rfl rfl ?_
    refine ep_getI dX5_close_17 flX5_64 (by have := h.2.2.2.2.2.2.2.2.2.1; omega) h.1 ?_
    refine ep_topE (y := nI (z_rel 0 R).2.1.length) hRe2.2.1.1 ?_
    refine ep_iconst (v := 1) dX5_close_20 (by decide) ?_
    refine ep_isub dX5_close_21 ?_
    refine ep_max dX5_close_22 xmX5_106 (Nat.le_of_ble_eq_true rfl) ?_
    refine ep_topE (y := nI (z_rel 0 R).2.1.tail.length) (z_mxl (by have := z_rl_len 0 R.2.1 R.1; show (z_rl 0 R.2.1 R.1).1.length < 2147483648; omega)) ?_
    refine ep_pI dX5_close_25 plX5_64 (by have := h.2.2.2.2.2.2.2.2.2.1; omega) (by have := h.2.2.2.2.2.2.2.2.2; omega) h.1 rfl rfl ?_
    refine ep_nmI (fun I4 hI4 => ?_)
    have o5 : z_only (z_rc i) I I4 := z_only.tr (o3) (fun b hb => by rw [hI4, z_set_ne (fun e => hb (by unfold z_rc; omega))])
    refine ep_aload_n (i := 0) dX5_close_28 rfl rfl ?_
    refine ep_dup dX5_close_29 rfl ?_
    refine ep_getI dX5_close_30 flX5_56 (by have := h.2.2.2.2.2.2.2.2.2.1; omega) h.1 ?_
    refine ep_topE (y := nI R.2.2.1) (by simpa [hI4, z_set, z_rel] using hRe2.2.2.1) ?_
    refine ep_iconst (v := 1) dX5_close_33 (by decide) ?_
    refine ep_isub dX5_close_34 ?_
    refine ep_topE (y := nI (R.2.2.1 - 1)) (by rw [show (1 : Int32) = nI 1 from by decide, pk_sub (by omega)]) ?_
    refine ep_pI dX5_close_35 plX5_56 (by have := h.2.2.2.2.2.2.2.2.2.1; omega) (by have := h.2.2.2.2.2.2.2.2.2; omega) h.1 rfl rfl ?_
    refine ep_nmI (fun I6 hI6 => ?_)
    have o7 : z_only (z_rc i) I I6 := z_only.tr (o5) (fun b hb => by rw [hI6, z_set_ne (fun e => hb (by unfold z_rc; omega))])
    refine ep_aload_n (i := 0) dX5_close_38 rfl rfl ?_
    refine ep_iconst (v := 0) dX5_close_39 (by decide) ?_
    refine ep_pI dX5_close_40 plX5_67 (by have := h.2.2.2.2.2.2.2.2.2.1; omega) (by have := h.2.2.2.2.2.2.2.2.2; omega) h.1 rfl rfl ?_
    refine ep_nmI (fun I8 hI8 => ?_)
    have o9 : z_only (z_rc i) I I8 := z_only.tr (o7) (fun b hb => by rw [hI8, z_set_ne (fun e => hb (by unfold z_rc; omega))])
    refine ep_iconst (v := 1) dX5_close_43 (by decide) ?_
    refine ep_iret dX5_close_44 rfl rfl ?_
    have e : z_cl R = some ((z_rel 0 R).1, (z_rel 0 R).2.1.tail, R.2.2.1 - 1, 0, R.2.2.2.2) := by rw [z_cl, if_neg n0]
    exact ⟨by rw [e]; rfl, _, rfl, fun _ g => (by rw [e] at g; cases g; obtain ⟨⟨a1, a2⟩, ⟨a3, a4⟩, a5, a6, a7, a8, a9, a10⟩ := hRe2; exact ⟨⟨by simpa [hI4, hI6, hI8, z_set, z_rel] using a1, fun k hk => by rw [show I8 (i + 1) = Ie2 (i + 1) from by rw [hI8, z_set_ne (by omega), hI6, z_set_ne (by omega), hI4, z_set_ne (by omega)]]; exact a2 k hk⟩, ⟨by simp [hI4, hI6, hI8, z_set], by rw [show I8 (i + 2) = Ie2 (i + 2) from by rw [hI8, z_set_ne (by omega), hI6, z_set_ne (by omega), hI4, z_set_ne (by omega)]]; exact z_lay_tail a4⟩, by simp [hI4, hI6, hI8, z_set], by simp [hI4, hI6, hI8, z_set, nI_0], by simpa [hI4, hI6, hI8, z_set, z_rel] using a7, by intro q hq; have hq : q ≤ R.2.2.1 - 1 := hq; rw [show I8 (i + 4) = Ie2 (i + 4) from by rw [hI8, z_set_ne (by omega), hI6, z_set_ne (by omega), hI4, z_set_ne (by omega)]]; exact a8 q (Nat.le_trans hq (Nat.sub_le _ _)), by simpa [hI4, hI6, hI8, z_set, z_rel] using a9, by simpa [hI4, hI6, hI8, z_set, z_rel] using a10⟩), o9⟩
  · skip
    refine ep_iconst (v := 0) dX5_close_7 (by decide) ?_
    refine ep_iret dX5_close_8 rfl rfl ?_
    have e : z_cl R = none := by rw [z_cl, if_pos (nI_inj0 (Classical.not_not.mp c1) (by omega))]
    exact ⟨by rw [e]; rfl, _, rfl, fun _ g => (by rw [e] at g; cases g), z_only.rf⟩
