/-! Rule: how a text is read: the machine's state as lists -/
/-- what was put out, what waits (the latest first), depth, digits, a thing is wanted, compared at each depth, lean seen, hour seen -/
abbrev z_R : Type := List Int32 × List Int32 × Nat × Nat × Bool × (Nat → Bool) × Bool × Bool
def z_b2 (b : Bool) : Int32 := if b then 1 else 0
/-- the state R lies in the rule's cells -/
def z_RI (I : Nat → Nat → Int32) (i : Nat) (R : z_R) : Prop :=
  (I i 4 = nI R.1.length ∧ ∀ k, k < R.1.length → I (i + 1) k = R.1.getD k 0) ∧ (I i 5 = nI R.2.1.length ∧ z_lay (I (i + 2)) R.2.1) ∧ I i 6 = nI R.2.2.1 ∧ I i 7 = nI R.2.2.2.1 ∧ I i 8 = z_b2 R.2.2.2.2.1 ∧ (∀ q, q ≤ R.2.2.1 → I (i + 4) q = z_b2 (R.2.2.2.2.2.1 q)) ∧ I i 9 = z_b2 R.2.2.2.2.2.2.1 ∧ I i 10 = z_b2 R.2.2.2.2.2.2.2
def z_rc (i : Nat) (c : Nat) : Prop := c = i ∨ c = i + 1 ∨ c = i + 2 ∨ c = i + 4
def z_rq (n : Nat) (sl : Nat × Nat) (kd : Nat → Nat × Nat) (L : Nat → Nat → Int64) (Rf : Nat → Nat → Option Nat) (I : Nat → Nat → Int32) (i : Nat) (rv : Option Value) (R : z_R) : Option Value → eb_S → Prop := fun r τ => r = rv ∧ ∃ I1, τ = (n, sl, kd, I1, L, Rf) ∧ z_RI I1 i R ∧ z_only (z_rc i) I I1
theorem z_rqok {n : Nat} {sl : Nat × Nat} {kd : Nat → Nat × Nat} {L : Nat → Nat → Int64} {Rf : Nat → Nat → Option Nat} {I : Nat → Nat → Int32} {i : Nat} {rv : Option Value} {R : z_R} {l : List (Nat × Value)} {rest : List Value} : ∀ r1 σ1, z_rq n sl kd L Rf I i rv R r1 σ1 → σ1.1 = n ∨ ((∀ q ∈ l, eb_okv n q.2) ∧ ∀ v ∈ rest, eb_okv n v) := fun _ _ ⟨_, _, h, _⟩ => Or.inl (by rw [h])
def z_rk (s : Int32) : Int32 := if s = 60 ∨ s = 61 ∨ s = 62 then 1 else if s = 43 ∨ s = 45 then 2 else if s = 42 ∨ s = 47 then 3 else if s = 256 then 4 else 0
/-- those that wait and bind as rank or more are put out, up to a ( -/
def z_rl (rank : Int32) : List Int32 → List Int32 → List Int32 × List Int32
  | [], pg => ([], pg)
  | s :: wt, pg => if s = 40 ∨ z_rk s < rank then (s :: wt, pg) else z_rl rank wt (pg ++ [-100 - s])
def z_rel (rank : Int32) (R : z_R) : z_R := ((z_rl rank R.2.1 R.1).2, (z_rl rank R.2.1 R.1).1, R.2.2)
theorem z_rl_len (rank : Int32) (wt pg : List Int32) : (z_rl rank wt pg).1.length + (z_rl rank wt pg).2.length = wt.length + pg.length := by
  induction wt generalizing pg with
  | nil => rfl
  | cons s wt ih =>
    rw [z_rl]
    split
    · rfl
    · rw [ih]; simp; omega
theorem q_X5_rankOf_60 {σ : eb_S} (d : Nat)  : eb_Q mX5_rankOf d [.int 60] σ (eb_r (z_rk 60) σ) := by
  refine ep_meth pn_X.2.2.2.2.2.1 (Nat.le_of_ble_eq_true rfl) ?_
  show eb_P mX5_rankOf (d) 0 [(0, .int 60)] [] σ _
  refine ep_iload_n (i := 0) dX5_rankOf_0 rfl rfl ?_
  refine ep_lookup (off := 75) (tgt := 76) dX5_rankOf_1 (by decide) (by decide) (by decide) ?_
  refine ep_iconst (v := 1) dX5_rankOf_76 (by decide) ?_
  refine ep_iret dX5_rankOf_77 rfl rfl ?_
  exact ⟨rfl, by first | rfl | (simp_all [z_rk])⟩
theorem q_X5_rankOf_61 {σ : eb_S} (d : Nat)  : eb_Q mX5_rankOf d [.int 61] σ (eb_r (z_rk 61) σ) := by
  refine ep_meth pn_X.2.2.2.2.2.1 (Nat.le_of_ble_eq_true rfl) ?_
  show eb_P mX5_rankOf (d) 0 [(0, .int 61)] [] σ _
  refine ep_iload_n (i := 0) dX5_rankOf_0 rfl rfl ?_
  refine ep_lookup (off := 75) (tgt := 76) dX5_rankOf_1 (by decide) (by decide) (by decide) ?_
  refine ep_iconst (v := 1) dX5_rankOf_76 (by decide) ?_
  refine ep_iret dX5_rankOf_77 rfl rfl ?_
  exact ⟨rfl, by first | rfl | (simp_all [z_rk])⟩
theorem q_X5_rankOf_62 {σ : eb_S} (d : Nat)  : eb_Q mX5_rankOf d [.int 62] σ (eb_r (z_rk 62) σ) := by
  refine ep_meth pn_X.2.2.2.2.2.1 (Nat.le_of_ble_eq_true rfl) ?_
  show eb_P mX5_rankOf (d) 0 [(0, .int 62)] [] σ _
  refine ep_iload_n (i := 0) dX5_rankOf_0 rfl rfl ?_
  refine ep_lookup (off := 75) (tgt := 76) dX5_rankOf_1 (by decide) (by decide) (by decide) ?_
  refine ep_iconst (v := 1) dX5_rankOf_76 (by decide) ?_
  refine ep_iret dX5_rankOf_77 rfl rfl ?_
  exact ⟨rfl, by first | rfl | (simp_all [z_rk])⟩
theorem q_X5_rankOf_43 {σ : eb_S} (d : Nat)  : eb_Q mX5_rankOf d [.int 43] σ (eb_r (z_rk 43) σ) := by
  refine ep_meth pn_X.2.2.2.2.2.1 (Nat.le_of_ble_eq_true rfl) ?_
  show eb_P mX5_rankOf (d) 0 [(0, .int 43)] [] σ _
  refine ep_iload_n (i := 0) dX5_rankOf_0 rfl rfl ?_
  refine ep_lookup (off := 77) (tgt := 78) dX5_rankOf_1 (by decide) (by decide) (by decide) ?_
  refine ep_iconst (v := 2) dX5_rankOf_78 (by decide) ?_
  refine ep_iret dX5_rankOf_79 rfl rfl ?_
  exact ⟨rfl, by first | rfl | (simp_all [z_rk])⟩
theorem q_X5_rankOf_45 {σ : eb_S} (d : Nat)  : eb_Q mX5_rankOf d [.int 45] σ (eb_r (z_rk 45) σ) := by
  refine ep_meth pn_X.2.2.2.2.2.1 (Nat.le_of_ble_eq_true rfl) ?_
  show eb_P mX5_rankOf (d) 0 [(0, .int 45)] [] σ _
  refine ep_iload_n (i := 0) dX5_rankOf_0 rfl rfl ?_
  refine ep_lookup (off := 77) (tgt := 78) dX5_rankOf_1 (by decide) (by decide) (by decide) ?_
  refine ep_iconst (v := 2) dX5_rankOf_78 (by decide) ?_
  refine ep_iret dX5_rankOf_79 rfl rfl ?_
  exact ⟨rfl, by first | rfl | (simp_all [z_rk])⟩
theorem q_X5_rankOf_42 {σ : eb_S} (d : Nat)  : eb_Q mX5_rankOf d [.int 42] σ (eb_r (z_rk 42) σ) := by
  refine ep_meth pn_X.2.2.2.2.2.1 (Nat.le_of_ble_eq_true rfl) ?_
  show eb_P mX5_rankOf (d) 0 [(0, .int 42)] [] σ _
  refine ep_iload_n (i := 0) dX5_rankOf_0 rfl rfl ?_
  refine ep_lookup (off := 79) (tgt := 80) dX5_rankOf_1 (by decide) (by decide) (by decide) ?_
  refine ep_iconst (v := 3) dX5_rankOf_80 (by decide) ?_
  refine ep_iret dX5_rankOf_81 rfl rfl ?_
  exact ⟨rfl, by first | rfl | (simp_all [z_rk])⟩
theorem q_X5_rankOf_47 {σ : eb_S} (d : Nat)  : eb_Q mX5_rankOf d [.int 47] σ (eb_r (z_rk 47) σ) := by
  refine ep_meth pn_X.2.2.2.2.2.1 (Nat.le_of_ble_eq_true rfl) ?_
  show eb_P mX5_rankOf (d) 0 [(0, .int 47)] [] σ _
  refine ep_iload_n (i := 0) dX5_rankOf_0 rfl rfl ?_
  refine ep_lookup (off := 79) (tgt := 80) dX5_rankOf_1 (by decide) (by decide) (by decide) ?_
  refine ep_iconst (v := 3) dX5_rankOf_80 (by decide) ?_
  refine ep_iret dX5_rankOf_81 rfl rfl ?_
  exact ⟨rfl, by first | rfl | (simp_all [z_rk])⟩
theorem q_X5_rankOf_256 {σ : eb_S} (d : Nat)  : eb_Q mX5_rankOf d [.int 256] σ (eb_r (z_rk 256) σ) := by
  refine ep_meth pn_X.2.2.2.2.2.1 (Nat.le_of_ble_eq_true rfl) ?_
  show eb_P mX5_rankOf (d) 0 [(0, .int 256)] [] σ _
  refine ep_iload_n (i := 0) dX5_rankOf_0 rfl rfl ?_
  refine ep_lookup (off := 81) (tgt := 82) dX5_rankOf_1 (by decide) (by decide) (by decide) ?_
  refine ep_iconst (v := 4) dX5_rankOf_82 (by decide) ?_
  refine ep_iret dX5_rankOf_83 rfl rfl ?_
  exact ⟨rfl, by first | rfl | (simp_all [z_rk])⟩
theorem z_lkr {sg : Int32} (h0 : sg ≠ 60) (h1 : sg ≠ 61) (h2 : sg ≠ 62) (h3 : sg ≠ 43) (h4 : sg ≠ 45) (h5 : sg ≠ 42) (h6 : sg ≠ 47) (h7 : sg ≠ 256) : Op.lookupswitch.offset (#[((42 : Int), (79 : Int)), (43, 77), (45, 77), (47, 79), (60, 75), (61, 75), (62, 75), (256, 81)]).toList 83 sg.toInt = 83 := by
  have e0 : ¬ sg.toInt = 60 := z_toI h0
  have e1 : ¬ sg.toInt = 61 := z_toI h1
  have e2 : ¬ sg.toInt = 62 := z_toI h2
  have e3 : ¬ sg.toInt = 43 := z_toI h3
  have e4 : ¬ sg.toInt = 45 := z_toI h4
  have e5 : ¬ sg.toInt = 42 := z_toI h5
  have e6 : ¬ sg.toInt = 47 := z_toI h6
  have e7 : ¬ sg.toInt = 256 := z_toI h7
  simp [Op.lookupswitch.offset, e0, e1, e2, e3, e4, e5, e6, e7, eq_comm]
theorem q_X5_rankOf_o {σ : eb_S} (d : Nat) {sg : Int32} (h0 : sg ≠ 60) (h1 : sg ≠ 61) (h2 : sg ≠ 62) (h3 : sg ≠ 43) (h4 : sg ≠ 45) (h5 : sg ≠ 42) (h6 : sg ≠ 47) (h7 : sg ≠ 256) : eb_Q mX5_rankOf d [.int sg] σ (eb_r (z_rk sg) σ) := by
  refine ep_meth pn_X.2.2.2.2.2.1 (Nat.le_of_ble_eq_true rfl) ?_
  show eb_P mX5_rankOf (d) 0 [(0, .int sg)] [] σ _
  refine ep_iload_n (i := 0) dX5_rankOf_0 rfl rfl ?_
  refine ep_lookup (off := 83) (tgt := 84) dX5_rankOf_1 (by decide) (z_lkr h0 h1 h2 h3 h4 h5 h6 h7) (by decide) ?_
  refine ep_iconst (v := 0) dX5_rankOf_84 (by decide) ?_
  refine ep_iret dX5_rankOf_85 rfl rfl ?_
  exact ⟨rfl, by first | rfl | (simp_all [z_rk])⟩
theorem q_X5_rankOf {σ : eb_S} (d : Nat) (sg : Int32) : eb_Q mX5_rankOf d [.int sg] σ (eb_r (z_rk sg) σ) := by
  by_cases h0 : sg = 60
  · subst h0; exact q_X5_rankOf_60 d
  by_cases h1 : sg = 61
  · subst h1; exact q_X5_rankOf_61 d
  by_cases h2 : sg = 62
  · subst h2; exact q_X5_rankOf_62 d
  by_cases h3 : sg = 43
  · subst h3; exact q_X5_rankOf_43 d
  by_cases h4 : sg = 45
  · subst h4; exact q_X5_rankOf_45 d
  by_cases h5 : sg = 42
  · subst h5; exact q_X5_rankOf_42 d
  by_cases h6 : sg = 47
  · subst h6; exact q_X5_rankOf_47 d
  by_cases h7 : sg = 256
  · subst h7; exact q_X5_rankOf_256 d
  exact q_X5_rankOf_o d h0 h1 h2 h3 h4 h5 h6 h7
theorem q_X5_hold {n : Nat} {sl : Nat × Nat} {kd : Nat → Nat × Nat} {I : Nat → Nat → Int32} {L : Nat → Nat → Int64} {Rf : Nat → Nat → Option Nat} (d : Nat) {i : Nat} (h : eb_rul n kd Rf i) {R : z_R} (hR : z_RI I i R) (hl : R.2.1.length < 40) (x : Int32) : eb_Q mX5_hold d [.ref i, .int x] (n, sl, kd, I, L, Rf) (z_rq n sl kd L Rf I i none (R.1, x :: R.2.1, R.2.2)) := by
  refine ep_meth pn_X.2.2.2.2.2.1 (Nat.le_of_ble_eq_true rfl) ?_
  show eb_P mX5_hold (d) 0 [(0, .ref i), (1, .int x)] [] (n, sl, kd, I, L, Rf) _
  refine ep_aload_n (i := 0) dX5_hold_0 rfl rfl ?_
  refine ep_getI dX5_hold_1 flX5_64 (by have := h.2.2.2.2.2.2.2.2.2.1; omega) h.1 ?_
  refine ep_topE (y := nI R.2.1.length) hR.2.1.1 ?_
  refine ep_aload_n (i := 0) dX5_hold_4 rfl rfl ?_
  refine ep_getR dX5_hold_5 flX5_15 (by have := h.2.2.2.2.2.2.2.2.2.1; omega) h.1 h.2.2.2.2.2.2.1 ?_
  refine ep_alen (v := 40) dX5_hold_8 (by have := h.2.2.2.2.2.2.2.2.2.1; omega) h.2.2.1 (by decide) (by decide) ?_
  refine ep_icmp_ge (tgt := 32) dX5_hold_9 (by decide) (fun c1 => absurd c1 (nI_ge (a := R.2.1.length) (b := 40) hl (by decide))) (fun c1 => ?_)
  refine ep_aload_n (i := 0) dX5_hold_12 rfl rfl ?_
  refine ep_getR dX5_hold_13 flX5_15 (by have := h.2.2.2.2.2.2.2.2.2.1; omega) h.1 h.2.2.2.2.2.2.1 ?_
  refine ep_aload_n (i := 0) dX5_hold_16 rfl rfl ?_
  refine ep_getI dX5_hold_17 flX5_64 (by have := h.2.2.2.2.2.2.2.2.2.1; omega) h.1 ?_
  refine ep_topE (y := nI R.2.1.length) hR.2.1.1 ?_
  refine ep_iload_n (i := 1) dX5_hold_20 rfl rfl ?_
  refine ep_isN (k := R.2.1.length) dX5_hold_21 (by have := h.2.2.2.2.2.2.2.2.2.1; omega) (by have := h.2.2.2.2.2.2.2.2.2; omega) h.2.2.1 (by omega) (by decide) ?_
  refine ep_nmI (fun I2 hI2 => ?_)
  refine ep_aload_n (i := 0) dX5_hold_22 rfl rfl ?_
  refine ep_dup dX5_hold_23 rfl ?_
  refine ep_getI dX5_hold_24 flX5_64 (by have := h.2.2.2.2.2.2.2.2.2.1; omega) h.1 ?_
  refine ep_topE (y := nI R.2.1.length) (by simp [hI2, z_set]; exact hR.2.1.1) ?_
  refine ep_iconst (v := 1) dX5_hold_27 (by decide) ?_
  refine ep_iadd dX5_hold_28 ?_
  refine ep_topE (y := nI (R.2.1.length + 1)) (nI_1 _) ?_
  refine ep_pI dX5_hold_29 plX5_64 (by have := h.2.2.2.2.2.2.2.2.2.1; omega) (by have := h.2.2.2.2.2.2.2.2.2; omega) h.1 rfl rfl ?_
  refine ep_nmI (fun I3 hI3 => ?_)
  refine ep_vret dX5_hold_32 rfl ?_
  refine ⟨rfl, _, rfl, ?_, ?_⟩
  · obtain ⟨⟨a1, a2⟩, ⟨a3, a4⟩, a5, a6, a7, a8, a9, a10⟩ := hR
    refine ⟨⟨?_, ?_⟩, ⟨?_, ?_⟩, ?_, ?_, ?_, ?_, ?_, ?_⟩
    · simp [hI2, hI3, z_set]; exact a1
    · intro k hk; rw [show I3 (i + 1) = I (i + 1) from by rw [hI3, z_set_ne (by omega), hI2, z_set_ne (by omega)]]; exact a2 k hk
    · simp [hI2, hI3, z_set]
    · refine z_lay_push a4 (fun q => ?_); simp [hI2, hI3, z_set]
    · simp [hI2, hI3, z_set]; exact a5
    · simp [hI2, hI3, z_set]; exact a6
    · simp [hI2, hI3, z_set]; exact a7
    · intro q hq; rw [show I3 (i + 4) = I (i + 4) from by rw [hI3, z_set_ne (by omega), hI2, z_set_ne (by omega)]]; exact a8 q hq
    · simp [hI2, hI3, z_set]; exact a9
    · simp [hI2, hI3, z_set]; exact a10
  · intro b hb
    have hb1 : b ≠ i := fun e => hb (by unfold z_rc; omega)
    have hb2 : b ≠ i + 1 := fun e => hb (by unfold z_rc; omega)
    have hb3 : b ≠ i + 2 := fun e => hb (by unfold z_rc; omega)
    have hb4 : b ≠ i + 4 := fun e => hb (by unfold z_rc; omega)
    rw [hI3, z_set_ne (by assumption), hI2, z_set_ne (by assumption)]
theorem q_X5_emit {n : Nat} {sl : Nat × Nat} {kd : Nat → Nat × Nat} {I : Nat → Nat → Int32} {L : Nat → Nat → Int64} {Rf : Nat → Nat → Option Nat} (d : Nat) {i : Nat} (h : eb_rul n kd Rf i) {R : z_R} (hR : z_RI I i R) (hl : R.1.length < 40) (x : Int32) : eb_Q mX5_emit d [.ref i, .int x] (n, sl, kd, I, L, Rf) (z_rq n sl kd L Rf I i none (R.1 ++ [x], R.2)) := by
  refine ep_meth pn_X.2.2.2.2.2.1 (Nat.le_of_ble_eq_true rfl) ?_
  show eb_P mX5_emit (d) 0 [(0, .ref i), (1, .int x)] [] (n, sl, kd, I, L, Rf) _
  refine ep_aload_n (i := 0) dX5_emit_0 rfl rfl ?_
  refine ep_getI dX5_emit_1 flX5_59 (by have := h.2.2.2.2.2.2.2.2.2.1; omega) h.1 ?_
  refine ep_topE (y := nI R.1.length) hR.1.1 ?_
  refine ep_aload_n (i := 0) dX5_emit_4 rfl rfl ?_
  refine ep_getR dX5_emit_5 flX5_11 (by have := h.2.2.2.2.2.2.2.2.2.1; omega) h.1 h.2.2.2.2.2.1 ?_
  refine ep_alen (v := 40) dX5_emit_8 (by have := h.2.2.2.2.2.2.2.2.2.1; omega) h.2.1 (by decide) (by decide) ?_
  refine ep_icmp_ge (tgt := 32) dX5_emit_9 (by decide) (fun c1 => absurd c1 (nI_ge (a := R.1.length) (b := 40) hl (by decide))) (fun c1 => ?_)
  refine ep_aload_n (i := 0) dX5_emit_12 rfl rfl ?_
  refine ep_getR dX5_emit_13 flX5_11 (by have := h.2.2.2.2.2.2.2.2.2.1; omega) h.1 h.2.2.2.2.2.1 ?_
  refine ep_aload_n (i := 0) dX5_emit_16 rfl rfl ?_
  refine ep_getI dX5_emit_17 flX5_59 (by have := h.2.2.2.2.2.2.2.2.2.1; omega) h.1 ?_
  refine ep_topE (y := nI R.1.length) hR.1.1 ?_
  refine ep_iload_n (i := 1) dX5_emit_20 rfl rfl ?_
  refine ep_isN (k := R.1.length) dX5_emit_21 (by have := h.2.2.2.2.2.2.2.2.2.1; omega) (by have := h.2.2.2.2.2.2.2.2.2; omega) h.2.1 (by omega) (by decide) ?_
  refine ep_nmI (fun I2 hI2 => ?_)
  refine ep_aload_n (i := 0) dX5_emit_22 rfl rfl ?_
  refine ep_dup dX5_emit_23 rfl ?_
  refine ep_getI dX5_emit_24 flX5_59 (by have := h.2.2.2.2.2.2.2.2.2.1; omega) h.1 ?_
  refine ep_topE (y := nI R.1.length) (by simp [hI2, z_set]; exact hR.1.1) ?_
  refine ep_iconst (v := 1) dX5_emit_27 (by decide) ?_
  refine ep_iadd dX5_emit_28 ?_
  refine ep_topE (y := nI (R.1.length + 1)) (nI_1 _) ?_
  refine ep_pI dX5_emit_29 plX5_59 (by have := h.2.2.2.2.2.2.2.2.2.1; omega) (by have := h.2.2.2.2.2.2.2.2.2; omega) h.1 rfl rfl ?_
  refine ep_nmI (fun I3 hI3 => ?_)
  refine ep_vret dX5_emit_32 rfl ?_
  refine ⟨rfl, _, rfl, ?_, ?_⟩
  · obtain ⟨⟨a1, a2⟩, ⟨a3, a4⟩, a5, a6, a7, a8, a9, a10⟩ := hR
    refine ⟨⟨?_, ?_⟩, ⟨?_, ?_⟩, ?_, ?_, ?_, ?_, ?_, ?_⟩
    · simp [hI2, hI3, z_set]
    · intro k hk; have hk : k < (R.1 ++ [x]).length := hk; show I3 (i + 1) k = (R.1 ++ [x]).getD k 0; rw [List.length_append] at hk; by_cases e : k = R.1.length
      · subst e; simp [hI2, hI3, z_set, List.getD]
      · have hk3 : k < R.1.length := (by simp at hk; omega)
        have := a2 k hk3
        simp [hI2, hI3, z_set, e, List.getD, List.getElem?_append_left hk3]; simpa [List.getD] using this
    · simp [hI2, hI3, z_set]; exact a3
    · rw [show I3 (i + 2) = I (i + 2) from by rw [hI3, z_set_ne (by omega), hI2, z_set_ne (by omega)]]; exact a4
    · simp [hI2, hI3, z_set]; exact a5
    · simp [hI2, hI3, z_set]; exact a6
    · simp [hI2, hI3, z_set]; exact a7
    · intro q hq; rw [show I3 (i + 4) = I (i + 4) from by rw [hI3, z_set_ne (by omega), hI2, z_set_ne (by omega)]]; exact a8 q hq
    · simp [hI2, hI3, z_set]; exact a9
    · simp [hI2, hI3, z_set]; exact a10
  · intro b hb
    have hb1 : b ≠ i := fun e => hb (by unfold z_rc; omega)
    have hb2 : b ≠ i + 1 := fun e => hb (by unfold z_rc; omega)
    have hb3 : b ≠ i + 2 := fun e => hb (by unfold z_rc; omega)
    have hb4 : b ≠ i + 4 := fun e => hb (by unfold z_rc; omega)
    rw [hI3, z_set_ne (by assumption), hI2, z_set_ne (by assumption)]
def z_R0 : z_R := ([], [], 0, 0, true, fun _ => false, false, false)
theorem q_X5_begin {n : Nat} {sl : Nat × Nat} {kd : Nat → Nat × Nat} {I : Nat → Nat → Int32} {L : Nat → Nat → Int64} {Rf : Nat → Nat → Option Nat} (d : Nat) {i : Nat} (h : eb_rul n kd Rf i)  : eb_Q mX5_begin d [.ref i] (n, sl, kd, I, L, Rf) (z_rq n sl kd L Rf I i none z_R0) := by
  refine ep_meth pn_X.2.2.2.2.2.1 (Nat.le_of_ble_eq_true rfl) ?_
  show eb_P mX5_begin (d) 0 [(0, .ref i)] [] (n, sl, kd, I, L, Rf) _
  refine ep_aload_n (i := 0) dX5_begin_0 rfl rfl ?_
  refine ep_iconst (v := 0) dX5_begin_1 (by decide) ?_
  refine ep_pI dX5_begin_2 plX5_59 (by have := h.2.2.2.2.2.2.2.2.2.1; omega) (by have := h.2.2.2.2.2.2.2.2.2; omega) h.1 rfl rfl ?_
  refine ep_nmI (fun I1 hI1 => ?_)
  refine ep_aload_n (i := 0) dX5_begin_5 rfl rfl ?_
  refine ep_iconst (v := 0) dX5_begin_6 (by decide) ?_
  refine ep_pI dX5_begin_7 plX5_64 (by have := h.2.2.2.2.2.2.2.2.2.1; omega) (by have := h.2.2.2.2.2.2.2.2.2; omega) h.1 rfl rfl ?_
  refine ep_nmI (fun I2 hI2 => ?_)
  refine ep_aload_n (i := 0) dX5_begin_10 rfl rfl ?_
  refine ep_iconst (v := 0) dX5_begin_11 (by decide) ?_
  refine ep_pI dX5_begin_12 plX5_56 (by have := h.2.2.2.2.2.2.2.2.2.1; omega) (by have := h.2.2.2.2.2.2.2.2.2; omega) h.1 rfl rfl ?_
  refine ep_nmI (fun I3 hI3 => ?_)
  refine ep_aload_n (i := 0) dX5_begin_15 rfl rfl ?_
  refine ep_iconst (v := 0) dX5_begin_16 (by decide) ?_
  refine ep_pI dX5_begin_17 plX5_67 (by have := h.2.2.2.2.2.2.2.2.2.1; omega) (by have := h.2.2.2.2.2.2.2.2.2; omega) h.1 rfl rfl ?_
  refine ep_nmI (fun I4 hI4 => ?_)
  refine ep_aload_n (i := 0) dX5_begin_20 rfl rfl ?_
  refine ep_iconst (v := 1) dX5_begin_21 (by decide) ?_
  refine ep_pI dX5_begin_22 plX5_37 (by have := h.2.2.2.2.2.2.2.2.2.1; omega) (by have := h.2.2.2.2.2.2.2.2.2; omega) h.1 rfl rfl ?_
  refine ep_nmI (fun I5 hI5 => ?_)
  refine ep_aload_n (i := 0) dX5_begin_25 rfl rfl ?_
  refine ep_iconst (v := 0) dX5_begin_26 (by decide) ?_
  refine ep_pI dX5_begin_27 plX5_70 (by have := h.2.2.2.2.2.2.2.2.2.1; omega) (by have := h.2.2.2.2.2.2.2.2.2; omega) h.1 rfl rfl ?_
  refine ep_nmI (fun I6 hI6 => ?_)
  refine ep_aload_n (i := 0) dX5_begin_30 rfl rfl ?_
  refine ep_iconst (v := 0) dX5_begin_31 (by decide) ?_
  refine ep_pI dX5_begin_32 plX5_73 (by have := h.2.2.2.2.2.2.2.2.2.1; omega) (by have := h.2.2.2.2.2.2.2.2.2; omega) h.1 rfl rfl ?_
  refine ep_nmI (fun I7 hI7 => ?_)
  refine ep_aload_n (i := 0) dX5_begin_35 rfl rfl ?_
  refine ep_getR dX5_begin_36 flX5_21 (by have := h.2.2.2.2.2.2.2.2.2.1; omega) h.1 h.2.2.2.2.2.2.2.2.1 ?_
  refine ep_iconst (v := 0) dX5_begin_39 (by decide) ?_
  refine ep_iconst (v := 0) dX5_begin_40 (by decide) ?_
  refine ep_zsN (k := 0) dX5_begin_41 (by have := h.2.2.2.2.2.2.2.2.2.1; omega) (by have := h.2.2.2.2.2.2.2.2.2; omega) h.2.2.2.2.1 (by omega) (by decide) ?_
  refine ep_nmI (fun I8 hI8 => ?_)
  refine ep_vret dX5_begin_42 rfl ?_
  refine ⟨rfl, _, rfl, ?_, ?_⟩
  · refine ⟨⟨?_, ?_⟩, ⟨?_, ?_⟩, ?_, ?_, ?_, ?_, ?_, ?_⟩
    · simp [hI1, hI2, hI3, hI4, hI5, hI6, hI7, hI8, z_set, nI_0, z_R0]
    · intro k hk; exact absurd hk (Nat.not_lt_zero k)
    · simp [hI1, hI2, hI3, hI4, hI5, hI6, hI7, hI8, z_set, nI_0, z_R0]
    · intro k hk; exact absurd hk (Nat.not_lt_zero k)
    · simp [hI1, hI2, hI3, hI4, hI5, hI6, hI7, hI8, z_set, nI_0, z_R0]
    · simp [hI1, hI2, hI3, hI4, hI5, hI6, hI7, hI8, z_set, nI_0, z_R0]
    · simp [hI1, hI2, hI3, hI4, hI5, hI6, hI7, hI8, z_set, z_b2, z_R0]
    · intro q hq; have hq : q = 0 := (Nat.le_zero.mp hq); subst hq; simp [hI1, hI2, hI3, hI4, hI5, hI6, hI7, hI8, z_set, z_b2, z_R0]; decide
    · simp [hI1, hI2, hI3, hI4, hI5, hI6, hI7, hI8, z_set, z_b2, z_R0]
    · simp [hI1, hI2, hI3, hI4, hI5, hI6, hI7, hI8, z_set, z_b2, z_R0]
  · intro b hb
    have hb1 : b ≠ i := fun e => hb (by unfold z_rc; omega)
    have hb4 : b ≠ i + 4 := fun e => hb (by unfold z_rc; omega)
    rw [hI8, z_set_ne (by assumption), hI7, z_set_ne (by assumption), hI6, z_set_ne (by assumption), hI5, z_set_ne (by assumption), hI4, z_set_ne (by assumption), hI3, z_set_ne (by assumption), hI2, z_set_ne (by assumption), hI1, z_set_ne (by assumption)]
theorem z_only.rf {P : Nat → Prop} {I : Nat → Nat → Int32} : z_only P I I := fun _ _ => rfl
theorem p_X5_release {n : Nat} {sl : Nat × Nat} {kd : Nat → Nat × Nat} {L : Nat → Nat → Int64} {Rf : Nat → Nat → Option Nat} (d : Nat) {i : Nat} (h : eb_rul n kd Rf i) {I0 : Nat → Nat → Int32} (x : Int32) (T : Nat × Nat × Bool × (Nat → Bool) × Bool × Bool) : ∀ (wt pg : List Int32) (I : Nat → Nat → Int32), z_RI I i (pg, wt, T) → z_only (z_rc i) I0 I → pg.length + wt.length ≤ 40 → eb_P mX5_release (d + 1) 0 [(0, .ref i), (1, .int x)] [] (n, sl, kd, I, L, Rf) (z_rq n sl kd L Rf I0 i none (z_rel x (pg, wt, T))) := by
  intro wt
  induction wt with
  | nil =>
    intro pg I hR ho hl
    refine ep_aload_n (i := 0) dX5_release_0 rfl rfl ?_
    refine ep_getI dX5_release_1 flX5_64 (by have := h.2.2.2.2.2.2.2.2.2.1; omega) h.1 ?_
    refine ep_topE (y := nI 0) hR.2.1.1 ?_
    refine ep_if_le (tgt := 70) dX5_release_4 (by decide) (fun c1 => ?_) (fun c1 => absurd (by decide) c1)
    refine ep_vret dX5_release_70 rfl ?_
    exact ⟨rfl, _, rfl, hR, ho⟩
  | cons s wt ih =>
    intro pg I hR ho hl
    have hl2 : pg.length + (wt.length + 1) ≤ 40 := by simpa using hl
    refine ep_aload_n (i := 0) dX5_release_0 rfl rfl ?_
    refine ep_getI dX5_release_1 flX5_64 (by have := h.2.2.2.2.2.2.2.2.2.1; omega) h.1 ?_
    refine ep_topE (y := nI (wt.length + 1)) hR.2.1.1 ?_
    refine ep_if_le (tgt := 70) dX5_release_4 (by decide) (fun c2 => absurd c2 (fun g => absurd g (by have g1 := nI_lt (a := 0) (b := wt.length + 1) (by omega) (by omega); rw [nI_0] at g1; exact Int32.not_le.mpr g1))) (fun c2 => ?_)
    refine ep_aload_n (i := 0) dX5_release_7 rfl rfl ?_
    refine ep_getR dX5_release_8 flX5_15 (by have := h.2.2.2.2.2.2.2.2.2.1; omega) h.1 h.2.2.2.2.2.2.1 ?_
    refine ep_aload_n (i := 0) dX5_release_11 rfl rfl ?_
    refine ep_getI dX5_release_12 flX5_64 (by have := h.2.2.2.2.2.2.2.2.2.1; omega) h.1 ?_
    refine ep_topE (y := nI (wt.length + 1)) hR.2.1.1 ?_
    refine ep_iconst (v := 1) dX5_release_15 (by decide) ?_
    refine ep_isub dX5_release_16 ?_
    refine ep_topE (y := nI wt.length) (by rw [show (1 : Int32) = nI 1 from by decide, pk_sub (by omega)]; rfl) ?_
    refine ep_iaN (k := wt.length) dX5_release_17 (by have := h.2.2.2.2.2.2.2.2.2.1; omega) h.2.2.1 (by omega) (by decide) ?_
    refine ep_topE (y := s) (z_lay_hd hR.2.1.2) ?_
    refine ep_bipush (v := 40) dX5_release_18 (by decide) ?_
    refine ep_icmp_eq (tgt := 70) dX5_release_20 (by decide) (fun c3 => ?_) (fun c3 => ?_)
    · skip
      refine ep_vret dX5_release_70 rfl ?_
      exact ⟨rfl, _, rfl, by rw [show z_rel x (pg, s :: wt, T) = (pg, s :: wt, T) from by rw [z_rel]; show ((z_rl x (s :: wt) pg).2, (z_rl x (s :: wt) pg).1, T) = _; rw [z_rl, if_pos (by first | exact Or.inl (by assumption) | exact Or.inr (by assumption))]]; exact hR, ho⟩
    · skip
      refine ep_aload_n (i := 0) dX5_release_23 rfl rfl ?_
      refine ep_getR dX5_release_24 flX5_15 (by have := h.2.2.2.2.2.2.2.2.2.1; omega) h.1 h.2.2.2.2.2.2.1 ?_
      refine ep_aload_n (i := 0) dX5_release_27 rfl rfl ?_
      refine ep_getI dX5_release_28 flX5_64 (by have := h.2.2.2.2.2.2.2.2.2.1; omega) h.1 ?_
      refine ep_topE (y := nI (wt.length + 1)) hR.2.1.1 ?_
      refine ep_iconst (v := 1) dX5_release_31 (by decide) ?_
      refine ep_isub dX5_release_32 ?_
      refine ep_topE (y := nI wt.length) (by rw [show (1 : Int32) = nI 1 from by decide, pk_sub (by omega)]; rfl) ?_
      refine ep_iaN (k := wt.length) dX5_release_33 (by have := h.2.2.2.2.2.2.2.2.2.1; omega) h.2.2.1 (by omega) (by decide) ?_
      refine ep_topE (y := s) (z_lay_hd hR.2.1.2) ?_
      refine ep_callS (M1 := mX5_rankOf) (rest := []) dX5_release_34 mlX5_103 msX5_rankOf rfl (Nat.le_of_ble_eq_true rfl) rfl (q_X5_rankOf d s) eb_rok ?_
      rintro _ _ ⟨rfl, rfl⟩
      show eb_P _ _ 37 [(0, .ref i), (1, .int x)] (.int (z_rk s) :: []) _ _
      refine ep_iload_n (i := 1) dX5_release_37 rfl rfl ?_
      refine ep_icmp_lt (tgt := 70) dX5_release_38 (by decide) (fun c4 => ?_) (fun c4 => ?_)
      · skip
        refine ep_vret dX5_release_70 rfl ?_
        exact ⟨rfl, _, rfl, by rw [show z_rel x (pg, s :: wt, T) = (pg, s :: wt, T) from by rw [z_rel]; show ((z_rl x (s :: wt) pg).2, (z_rl x (s :: wt) pg).1, T) = _; rw [z_rl, if_pos (by first | exact Or.inl (by assumption) | exact Or.inr (by assumption))]]; exact hR, ho⟩
      · skip
        refine ep_aload_n (i := 0) dX5_release_41 rfl rfl ?_
        refine ep_dup dX5_release_42 rfl ?_
        refine ep_getI dX5_release_43 flX5_64 (by have := h.2.2.2.2.2.2.2.2.2.1; omega) h.1 ?_
        refine ep_topE (y := nI (wt.length + 1)) hR.2.1.1 ?_
        refine ep_iconst (v := 1) dX5_release_46 (by decide) ?_
        refine ep_isub dX5_release_47 ?_
        refine ep_topE (y := nI wt.length) (by rw [show (1 : Int32) = nI 1 from by decide, pk_sub (by omega)]; rfl) ?_
        refine ep_pI dX5_release_48 plX5_64 (by have := h.2.2.2.2.2.2.2.2.2.1; omega) (by have := h.2.2.2.2.2.2.2.2.2; omega) h.1 rfl rfl ?_
        refine ep_nmI (fun I5 hI5 => ?_)
        refine ep_aload_n (i := 0) dX5_release_51 rfl rfl ?_
        refine ep_bipush (v := (-100)) dX5_release_52 (by decide) ?_
        refine ep_aload_n (i := 0) dX5_release_54 rfl rfl ?_
        refine ep_getR dX5_release_55 flX5_15 (by have := h.2.2.2.2.2.2.2.2.2.1; omega) h.1 h.2.2.2.2.2.2.1 ?_
        refine ep_aload_n (i := 0) dX5_release_58 rfl rfl ?_
        refine ep_getI dX5_release_59 flX5_64 (by have := h.2.2.2.2.2.2.2.2.2.1; omega) h.1 ?_
        refine ep_topE (y := nI wt.length) (by simp [hI5, z_set]) ?_
        refine ep_iaN (k := wt.length) dX5_release_62 (by have := h.2.2.2.2.2.2.2.2.2.1; omega) h.2.2.1 (by omega) (by decide) ?_
        refine ep_topE (y := s) (by rw [hI5, z_set_ne (by omega)]; exact z_lay_hd hR.2.1.2) ?_
        refine ep_isub dX5_release_63 ?_
        refine ep_callV (M1 := mX5_emit) (rest := []) dX5_release_64 mlX5_94 mvX5_emit rfl (by have := h.2.2.2.2.2.2.2.2.2.1; omega) h.1 (Nat.le_of_ble_eq_true rfl) rfl (q_X5_emit (I := I5) (R := (pg, wt, T)) d h (by obtain ⟨⟨a1, a2⟩, ⟨a3, a4⟩, a5, a6, a7, a8, a9, a10⟩ := hR; exact ⟨⟨by simp [hI5, z_set]; exact a1, fun k hk => by rw [show I5 (i + 1) = I (i + 1) from by rw [hI5, z_set_ne (by omega)]]; exact a2 k hk⟩, ⟨by simp [hI5, z_set], by rw [show I5 (i + 2) = I (i + 2) from by rw [hI5, z_set_ne (by omega)]]; exact z_lay_tl a4⟩, by simp [hI5, z_set]; exact a5, by simp [hI5, z_set]; exact a6, by simp [hI5, z_set]; exact a7, fun q hq => by rw [show I5 (i + 4) = I (i + 4) from by rw [hI5, z_set_ne (by omega)]]; exact a8 q hq, by simp [hI5, z_set]; exact a9, by simp [hI5, z_set]; exact a10⟩) (by show pg.length < 40; omega) _) z_rqok ?_
        rintro _ _ ⟨rfl, Ie, rfl, hRe, hoe⟩
        show eb_P _ _ 67 [(0, .ref i), (1, .int x)] [] (n, sl, kd, Ie, L, Rf) _
        refine ep_goto (tgt := 0) dX5_release_67 (by decide) ?_
        have e : z_rel x (pg, s :: wt, T) = z_rel x (pg ++ [(-100) - s], wt, T) := by rw [z_rel, z_rel]; show ((z_rl x (s :: wt) pg).2, (z_rl x (s :: wt) pg).1, T) = _; rw [z_rl, if_neg (fun g => g.elim (fun e => absurd e (by assumption)) (fun e => absurd e (by assumption)))]
        rw [e]
        exact ih (pg ++ [(-100) - s]) Ie hRe (z_only.tr (z_only.tr ho (fun b hb => by rw [hI5, z_set_ne (fun e => hb (by unfold z_rc; omega))])) hoe) (by simp; omega)
theorem q_X5_release {n : Nat} {sl : Nat × Nat} {kd : Nat → Nat × Nat} {I : Nat → Nat → Int32} {L : Nat → Nat → Int64} {Rf : Nat → Nat → Option Nat} (d : Nat) {i : Nat} (h : eb_rul n kd Rf i) {R : z_R} (hR : z_RI I i R) (hl : R.1.length + R.2.1.length ≤ 40) (x : Int32) : eb_Q mX5_release (d + 1) [.ref i, .int x] (n, sl, kd, I, L, Rf) (z_rq n sl kd L Rf I i none (z_rel x R)) := by
  refine ep_meth pn_X.2.2.2.2.2.1 (Nat.le_of_ble_eq_true rfl) ?_
  exact p_X5_release d h x R.2.2 R.2.1 R.1 I hR z_only.rf hl
