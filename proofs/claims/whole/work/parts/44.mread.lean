/-! the reference reads: the row that it reads, of ln signs, at most tp of them; s: where it stands and what is wrong -/
def zpw (I : Nat → Nat → Int32) (s : zps) : Nat → Nat → Int32 := z_set (z_set I 112 13 (nI s.1)) 112 14 s.2
theorem zpw_13 {I : Nat → Nat → Int32} {s : zps} : zpw I s 112 13 = nI s.1 := by unfold zpw; rw [z_set_nk (by decide), z_set_at]
theorem zpw_14 {I : Nat → Nat → Int32} {s : zps} : zpw I s 112 14 = s.2 := by unfold zpw; rw [z_set_at]
theorem zpw_o {I : Nat → Nat → Int32} {s : zps} {k : Nat} (h1 : k ≠ 13) (h2 : k ≠ 14) : zpw I s 112 k = I 112 k := by unfold zpw; rw [z_set_nk h2, z_set_nk h1]
theorem zpw_ne {I : Nat → Nat → Int32} {s : zps} {c : Nat} (h : c ≠ 112) : zpw I s c = I c := by unfold zpw; rw [z_set_ne h, z_set_ne h]
theorem zpw_s13 {I : Nat → Nat → Int32} {s : zps} {q : Nat} : z_set (zpw I s) 112 13 (nI q) = zpw I (q, s.2) := by
  funext a i; simp only [zpw, z_set]
  by_cases h1 : a = 112 ∧ i = 13
  · rw [if_pos h1, if_neg (by omega), if_pos h1]
  · rw [if_neg h1, if_neg h1, if_neg h1]
theorem zpw_s14 {I : Nat → Nat → Int32} {s : zps} {w : Int32} : z_set (zpw I s) 112 14 w = zpw I (s.1, w) := by
  funext a i; simp only [zpw, z_set]
  by_cases h1 : a = 112 ∧ i = 14
  · rw [if_pos h1, if_pos h1]
  · rw [if_neg h1, if_neg h1, if_neg h1]
def zpc (n : Nat) (kd : Nat → Nat × Nat) (I : Nat → Nat → Int32) (Rf : Nat → Nat → Option Nat) (rc m ln tp : Nat) (t : Nat → Int32) : Prop := (zF n kd Rf) ∧ (Rf 112 10 = some rc) ∧ (kd rc = (21, m)) ∧ (ln ≤ m ∧ m ≤ 80) ∧ (rc < 138 ∧ rc ≠ 112) ∧ (I 112 11 = nI ln) ∧ (I 112 12 = nI tp ∧ tp ≤ 80) ∧ (I rc = t) ∧ (∀ k, k < ln → ∃ v, v < 256 ∧ t k = (nI v).toInt8.toInt32)
theorem zpc.F {n : Nat} {kd : Nat → Nat × Nat} {I : Nat → Nat → Int32} {Rf : Nat → Nat → Option Nat} {rc m ln tp : Nat} {t : Nat → Int32} (h : zpc n kd I Rf rc m ln tp t) : zF n kd Rf := h.1
theorem zpc.r {n : Nat} {kd : Nat → Nat × Nat} {I : Nat → Nat → Int32} {Rf : Nat → Nat → Option Nat} {rc m ln tp : Nat} {t : Nat → Int32} (h : zpc n kd I Rf rc m ln tp t) : Rf 112 10 = some rc := h.2.1
theorem zpc.k {n : Nat} {kd : Nat → Nat × Nat} {I : Nat → Nat → Int32} {Rf : Nat → Nat → Option Nat} {rc m ln tp : Nat} {t : Nat → Int32} (h : zpc n kd I Rf rc m ln tp t) : kd rc = (21, m) := h.2.2.1
theorem zpc.ml {n : Nat} {kd : Nat → Nat × Nat} {I : Nat → Nat → Int32} {Rf : Nat → Nat → Option Nat} {rc m ln tp : Nat} {t : Nat → Int32} (h : zpc n kd I Rf rc m ln tp t) : ln ≤ m ∧ m ≤ 80 := h.2.2.2.1
theorem zpc.c {n : Nat} {kd : Nat → Nat × Nat} {I : Nat → Nat → Int32} {Rf : Nat → Nat → Option Nat} {rc m ln tp : Nat} {t : Nat → Int32} (h : zpc n kd I Rf rc m ln tp t) : rc < 138 ∧ rc ≠ 112 := h.2.2.2.2.1
theorem zpc.l {n : Nat} {kd : Nat → Nat × Nat} {I : Nat → Nat → Int32} {Rf : Nat → Nat → Option Nat} {rc m ln tp : Nat} {t : Nat → Int32} (h : zpc n kd I Rf rc m ln tp t) : I 112 11 = nI ln := h.2.2.2.2.2.1
theorem zpc.tq {n : Nat} {kd : Nat → Nat × Nat} {I : Nat → Nat → Int32} {Rf : Nat → Nat → Option Nat} {rc m ln tp : Nat} {t : Nat → Int32} (h : zpc n kd I Rf rc m ln tp t) : I 112 12 = nI tp ∧ tp ≤ 80 := h.2.2.2.2.2.2.1
theorem zpc.x {n : Nat} {kd : Nat → Nat × Nat} {I : Nat → Nat → Int32} {Rf : Nat → Nat → Option Nat} {rc m ln tp : Nat} {t : Nat → Int32} (h : zpc n kd I Rf rc m ln tp t) : I rc = t := h.2.2.2.2.2.2.2.1
theorem zpc.b {n : Nat} {kd : Nat → Nat × Nat} {I : Nat → Nat → Int32} {Rf : Nat → Nat → Option Nat} {rc m ln tp : Nat} {t : Nat → Int32} (h : zpc n kd I Rf rc m ln tp t) : ∀ k, k < ln → ∃ v, v < 256 ∧ t k = (nI v).toInt8.toInt32 := h.2.2.2.2.2.2.2.2
theorem z_bt : ∀ v, v < 256 → ((nI v).toInt8.toInt32 &&& 255) = nI v := by decide +kernel
theorem z_bl : ∀ v, v < 128 → (nI v).toInt8.toInt32 = nI v := by decide +kernel
theorem zhr_in {t : Nat → Int32} {ln tp p : Nat} (h : zhr t ln tp p ≠ -1) : p < ln ∧ p < tp := by
  unfold zhr at h; split at h
  · assumption
  · exact absurd rfl h
theorem q_X11_here {n : Nat} {sl : Nat × Nat} {kd : Nat → Nat × Nat} {I : Nat → Nat → Int32} {L : Nat → Nat → Int64} {Rf : Nat → Nat → Option Nat} (d : Nat) {rc m ln tp : Nat} {t : Nat → Int32} (hP : zpc n kd I Rf rc m ln tp t) {s : zps} (hp : s.1 < 1000)  : eb_Q mX11_here d [.ref 112] (n, sl, kd, zpw I s, L, Rf) (eb_r (zhr t ln tp s.1) (n, sl, kd, zpw I s, L, Rf)) := by
  have hF := hP.F; have hln := hP.ml; have htp := hP.tq.2
  refine ep_meth pn_X.2.2.2.2.2.2.2.2.2.2.2 (Nat.le_of_ble_eq_true rfl) ?_
  show eb_P _ _ 0 [(0, .ref 112)] [] (n, sl, kd, zpw I (s.1, s.2), L, Rf) _
  refine ep_aload_n (i := 0) dX11_here_0 rfl rfl ?_
  refine ep_getI dX11_here_1 flX11_114 (hF.lt (by decide)) (hF.kc (by decide) rfl) ?_
  refine ep_topE (y := nI s.1) zpw_13 ?_
  refine ep_aload_n (i := 0) dX11_here_4 rfl rfl ?_
  refine ep_getI dX11_here_5 flX11_108 (hF.lt (by decide)) (hF.kc (by decide) rfl) ?_
  refine ep_topE (y := nI ln) ((zpw_o (by decide) (by decide)).trans hP.l) ?_
  refine ep_icmp_ge (tgt := 38) dX11_here_8 (by decide) (fun c1 => ?_) (fun c1 => ?_)
  · skip
    refine ep_iconst (v := (-1)) dX11_here_38 (by decide) ?_
    refine ep_iret dX11_here_39 rfl rfl ?_
    exact ⟨rfl, by unfold zhr; rw [if_neg (fun e => by first | exact absurd (nI_lt e.1 (by omega)) (Int32.not_lt.mpr (by assumption)) | exact absurd (nI_lt e.2 (by omega)) (Int32.not_lt.mpr (by assumption)))]⟩
  · skip
    have h1 : s.1 < ln := Nat.lt_of_not_le (fun e => absurd (nI_le e (by omega)) (by assumption))
    refine ep_aload_n (i := 0) dX11_here_11 rfl rfl ?_
    refine ep_getI dX11_here_12 flX11_114 (hF.lt (by decide)) (hF.kc (by decide) rfl) ?_
    refine ep_topE (y := nI s.1) zpw_13 ?_
    refine ep_aload_n (i := 0) dX11_here_15 rfl rfl ?_
    refine ep_getI dX11_here_16 flX11_111 (hF.lt (by decide)) (hF.kc (by decide) rfl) ?_
    refine ep_topE (y := nI tp) ((zpw_o (by decide) (by decide)).trans hP.tq.1) ?_
    refine ep_icmp_ge (tgt := 38) dX11_here_19 (by decide) (fun c2 => ?_) (fun c2 => ?_)
    · skip
      refine ep_iconst (v := (-1)) dX11_here_38 (by decide) ?_
      refine ep_iret dX11_here_39 rfl rfl ?_
      exact ⟨rfl, by unfold zhr; rw [if_neg (fun e => by first | exact absurd (nI_lt e.1 (by omega)) (Int32.not_lt.mpr (by assumption)) | exact absurd (nI_lt e.2 (by omega)) (Int32.not_lt.mpr (by assumption)))]⟩
    · skip
      have h2 : s.1 < tp := Nat.lt_of_not_le (fun e => absurd (nI_le e (by omega)) (by assumption))
      refine ep_aload_n (i := 0) dX11_here_22 rfl rfl ?_
      refine ep_getR dX11_here_23 flX11_105 (hF.lt (by decide)) (hF.kc (by decide) rfl) hP.r ?_
      refine ep_aload_n (i := 0) dX11_here_26 rfl rfl ?_
      refine ep_getI dX11_here_27 flX11_114 (hF.lt (by decide)) (hF.kc (by decide) rfl) ?_
      refine ep_topE (y := nI s.1) zpw_13 ?_
      refine ep_baN (k := s.1) dX11_here_30 (hP.F.lt hP.c.1) hP.k (by omega) (by omega) ?_
      refine ep_topE (y := t s.1) (by rw [zpw_ne hP.c.2, hP.x]) ?_
      refine ep_sipush (v := 255) dX11_here_31 (by decide) ?_
      refine ep_iand dX11_here_34 ?_
      refine ep_goto (tgt := 39) dX11_here_35 (by decide) ?_
      refine ep_iret dX11_here_39 rfl rfl ?_
      exact ⟨rfl, by unfold zhr; rw [if_pos ⟨h1, h2⟩]⟩
theorem q_X11_fine {n : Nat} {sl : Nat × Nat} {kd : Nat → Nat × Nat} {I : Nat → Nat → Int32} {L : Nat → Nat → Int64} {Rf : Nat → Nat → Option Nat} (d : Nat) {rc m ln tp : Nat} {t : Nat → Int32} (hP : zpc n kd I Rf rc m ln tp t) {s : zps} (hp : s.1 < 1000)  : eb_Q mX11_fine d [.ref 112] (n, sl, kd, zpw I s, L, Rf) (eb_b (s.2 = -1) (n, sl, kd, zpw I s, L, Rf)) := by
  have hF := hP.F; have hln := hP.ml; have htp := hP.tq.2
  refine ep_meth pn_X.2.2.2.2.2.2.2.2.2.2.2 (Nat.le_of_ble_eq_true rfl) ?_
  show eb_P _ _ 0 [(0, .ref 112)] [] (n, sl, kd, zpw I (s.1, s.2), L, Rf) _
  refine ep_aload_n (i := 0) dX11_fine_0 rfl rfl ?_
  refine ep_getI dX11_fine_1 flX11_117 (hF.lt (by decide)) (hF.kc (by decide) rfl) ?_
  refine ep_topE (y := s.2) zpw_14 ?_
  refine ep_iconst (v := (-1)) dX11_fine_4 (by decide) ?_
  refine ep_icmp_ne (tgt := 12) dX11_fine_5 (by decide) (fun c1 => ?_) (fun c1 => ?_)
  · skip
    refine ep_iconst (v := 0) dX11_fine_12 (by decide) ?_
    refine ep_iret dX11_fine_13 rfl (by decide) ?_
    exact ⟨rfl, Or.inr ⟨by assumption, rfl⟩⟩
  · skip
    refine ep_iconst (v := 1) dX11_fine_8 (by decide) ?_
    refine ep_goto (tgt := 13) dX11_fine_9 (by decide) ?_
    refine ep_iret dX11_fine_13 rfl (by decide) ?_
    exact ⟨rfl, Or.inl ⟨Classical.not_not.mp (by assumption), rfl⟩⟩
theorem q_X11_fault {n : Nat} {sl : Nat × Nat} {kd : Nat → Nat × Nat} {I : Nat → Nat → Int32} {L : Nat → Nat → Int64} {Rf : Nat → Nat → Option Nat} (d : Nat) {rc m ln tp : Nat} {t : Nat → Int32} (hP : zpc n kd I Rf rc m ln tp t) {s : zps} (hp : s.1 < 1000) (k : Nat) : eb_Q mX11_fault (d + 1) [.ref 112, .int (nI k)] (n, sl, kd, zpw I s, L, Rf) (eb_v (n, sl, kd, zpw I (zp_fault k s), L, Rf)) := by
  have hF := hP.F; have hln := hP.ml; have htp := hP.tq.2
  refine ep_meth pn_X.2.2.2.2.2.2.2.2.2.2.2 (Nat.le_of_ble_eq_true rfl) ?_
  show eb_P _ _ 0 [(0, .ref 112), (1, .int (nI k))] [] (n, sl, kd, zpw I (s.1, s.2), L, Rf) _
  refine ep_aload_n (i := 0) dX11_fault_0 rfl rfl ?_
  refine ep_callV (M1 := mX11_fine) (rest := []) dX11_fault_1 mlX11_124 mvX11_fine rfl (hF.lt (by decide)) (hF.kc (by decide) rfl) (Nat.le_of_ble_eq_true rfl) rfl (q_X11_fine (s := (s.1, s.2)) d hP (by omega)) eb_bok ?_
  rintro _ _ ⟨rfl, ⟨fi, rfl⟩ | ⟨fi, rfl⟩⟩
  · show eb_P _ _ 4 [(0, .ref 112), (1, .int (nI k))] (.int 1 :: []) _ _
    refine ep_if_eq (tgt := 12) dX11_fault_4 (by decide) (fun c1 => absurd c1 (by decide)) (fun c1 => ?_)
    refine ep_aload_n (i := 0) dX11_fault_7 rfl rfl ?_
    refine ep_iload_n (i := 1) dX11_fault_8 rfl rfl ?_
    refine ep_pI dX11_fault_9 plX11_117 (hF.lt (by decide)) (hF.lx (by decide)) (hF.kc (by decide) rfl) rfl rfl ?_
    refine ep_eq (σ2 := (n, sl, kd, zpw I (s.1, nI k), L, Rf)) rfl rfl rfl (by rw [zpw_s14]) ?_
    refine ep_vret dX11_fault_12 rfl ?_
    exact ⟨by unfold zp_fault; rw [if_pos fi], rfl⟩
  · show eb_P _ _ 4 [(0, .ref 112), (1, .int (nI k))] (.int 0 :: []) _ _
    refine ep_if_eq (tgt := 12) dX11_fault_4 (by decide) (fun c2 => ?_) (fun c2 => absurd (by decide) c2)
    refine ep_vret dX11_fault_12 rfl ?_
    exact ⟨by unfold zp_fault; rw [if_neg fi], rfl⟩
/-- a sign passed, or not -/
def zpb (n : Nat) (sl : Nat × Nat) (kd : Nat → Nat × Nat) (I : Nat → Nat → Int32) (L : Nat → Nat → Int64) (Rf : Nat → Nat → Option Nat) (hr : Nat → Int32) (c : Int32) (s : zps) : Option Value → eb_S → Prop := fun r τ => (zp_is hr c s ∧ r = some (.int 1) ∧ τ = (n, sl, kd, zpw I (s.1 + 1, s.2), L, Rf)) ∨ (¬ zp_is hr c s ∧ r = some (.int 0) ∧ τ = (n, sl, kd, zpw I (s.1, s.2), L, Rf))
theorem zpb_ok {n : Nat} {sl : Nat × Nat} {kd : Nat → Nat × Nat} {I : Nat → Nat → Int32} {L : Nat → Nat → Int64} {Rf : Nat → Nat → Option Nat} {hr : Nat → Int32} {c : Int32} {s : zps} {l : List (Nat × Value)} {rest : List Value} : ∀ r1 σ1, zpb n sl kd I L Rf hr c s r1 σ1 → σ1.1 = n ∨ ((∀ q ∈ l, eb_okv n q.2) ∧ ∀ v ∈ rest, eb_okv n v) := fun _ _ h => Or.inl (by rcases h with ⟨_, _, h⟩ | ⟨_, _, h⟩ <;> rw [h])
theorem q_X11_passes {n : Nat} {sl : Nat × Nat} {kd : Nat → Nat × Nat} {I : Nat → Nat → Int32} {L : Nat → Nat → Int64} {Rf : Nat → Nat → Option Nat} (d : Nat) {rc m ln tp : Nat} {t : Nat → Int32} (hP : zpc n kd I Rf rc m ln tp t) {s : zps} (hp : s.1 < 1000) (c : Int32) : eb_Q mX11_passes (d + 1) [.ref 112, .int c] (n, sl, kd, zpw I s, L, Rf) (zpb n sl kd I L Rf (zhr t ln tp) c s) := by
  have hF := hP.F; have hln := hP.ml; have htp := hP.tq.2
  refine ep_meth pn_X.2.2.2.2.2.2.2.2.2.2.2 (Nat.le_of_ble_eq_true rfl) ?_
  show eb_P _ _ 0 [(0, .ref 112), (1, .int c)] [] (n, sl, kd, zpw I (s.1, s.2), L, Rf) _
  refine ep_aload_n (i := 0) dX11_passes_0 rfl rfl ?_
  refine ep_callV (M1 := mX11_fine) (rest := []) dX11_passes_1 mlX11_124 mvX11_fine rfl (hF.lt (by decide)) (hF.kc (by decide) rfl) (Nat.le_of_ble_eq_true rfl) rfl (q_X11_fine (s := (s.1, s.2)) d hP (by omega)) eb_bok ?_
  rintro _ _ ⟨rfl, ⟨fi, rfl⟩ | ⟨fi, rfl⟩⟩
  · show eb_P _ _ 4 [(0, .ref 112), (1, .int c)] (.int 1 :: []) _ _
    refine ep_if_eq (tgt := 15) dX11_passes_4 (by decide) (fun c1 => absurd c1 (by decide)) (fun c1 => ?_)
    refine ep_aload_n (i := 0) dX11_passes_7 rfl rfl ?_
    refine ep_callV (M1 := mX11_here) (rest := []) dX11_passes_8 mlX11_128 mvX11_here rfl (hF.lt (by decide)) (hF.kc (by decide) rfl) (Nat.le_of_ble_eq_true rfl) rfl (q_X11_here (s := (s.1, s.2)) d hP (by omega)) eb_rok ?_
    rintro _ _ ⟨rfl, rfl⟩
    show eb_P _ _ 11 [(0, .ref 112), (1, .int c)] (.int (zhr t ln tp s.1) :: []) _ _
    refine ep_iload_n (i := 1) dX11_passes_11 rfl rfl ?_
    refine ep_icmp_eq (tgt := 17) dX11_passes_12 (by decide) (fun c2 => ?_) (fun c2 => ?_)
    · skip
      refine ep_aload_n (i := 0) dX11_passes_17 rfl rfl ?_
      refine ep_dup dX11_passes_18 rfl ?_
      refine ep_getI dX11_passes_19 flX11_114 (hF.lt (by decide)) (hF.kc (by decide) rfl) ?_
      refine ep_topE (y := nI s.1) zpw_13 ?_
      refine ep_iconst (v := 1) dX11_passes_22 (by decide) ?_
      refine ep_iadd dX11_passes_23 ?_
      refine ep_topE (y := nI (s.1 + 1)) (nI_add _ _) ?_
      refine ep_pI dX11_passes_24 plX11_114 (hF.lt (by decide)) (hF.lx (by decide)) (hF.kc (by decide) rfl) rfl rfl ?_
      refine ep_eq (σ2 := (n, sl, kd, zpw I ((s.1 + 1), s.2), L, Rf)) rfl rfl rfl (by rw [zpw_s13]) ?_
      refine ep_iconst (v := 1) dX11_passes_27 (by decide) ?_
      refine ep_iret dX11_passes_28 rfl (by decide) ?_
      exact Or.inl ⟨⟨fi, by assumption⟩, rfl, rfl⟩
    · skip
      refine ep_iconst (v := 0) dX11_passes_15 (by decide) ?_
      refine ep_iret dX11_passes_16 rfl (by decide) ?_
      exact Or.inr ⟨fun e => by first | exact absurd e.1 (by assumption) | exact absurd e.2 (by assumption), rfl, rfl⟩
  · show eb_P _ _ 4 [(0, .ref 112), (1, .int c)] (.int 0 :: []) _ _
    refine ep_if_eq (tgt := 15) dX11_passes_4 (by decide) (fun c3 => ?_) (fun c3 => absurd (by decide) c3)
    refine ep_iconst (v := 0) dX11_passes_15 (by decide) ?_
    refine ep_iret dX11_passes_16 rfl (by decide) ?_
    exact Or.inr ⟨fun e => by first | exact absurd e.1 (by assumption) | exact absurd e.2 (by assumption), rfl, rfl⟩
theorem q_X11_need {n : Nat} {sl : Nat × Nat} {kd : Nat → Nat × Nat} {I : Nat → Nat → Int32} {L : Nat → Nat → Int64} {Rf : Nat → Nat → Option Nat} (d : Nat) {rc m ln tp : Nat} {t : Nat → Int32} (hP : zpc n kd I Rf rc m ln tp t) {s : zps} (hp : s.1 < 1000) (c : Int32) : eb_Q mX11_need (d + 2) [.ref 112, .int c] (n, sl, kd, zpw I s, L, Rf) (eb_v (n, sl, kd, zpw I (zp_need (zhr t ln tp) c s), L, Rf)) := by
  have hF := hP.F; have hln := hP.ml; have htp := hP.tq.2
  refine ep_meth pn_X.2.2.2.2.2.2.2.2.2.2.2 (Nat.le_of_ble_eq_true rfl) ?_
  show eb_P _ _ 0 [(0, .ref 112), (1, .int c)] [] (n, sl, kd, zpw I (s.1, s.2), L, Rf) _
  refine ep_aload_n (i := 0) dX11_need_0 rfl rfl ?_
  refine ep_iload_n (i := 1) dX11_need_1 rfl rfl ?_
  refine ep_callV (M1 := mX11_passes) (rest := []) dX11_need_2 mlX11_132 mvX11_passes rfl (hF.lt (by decide)) (hF.kc (by decide) rfl) (Nat.le_of_ble_eq_true rfl) rfl (q_X11_passes (s := (s.1, s.2)) d hP (by omega) c) zpb_ok ?_
  rintro _ _ (⟨z1, rfl, rfl⟩ | ⟨z1, rfl, rfl⟩)
  · show eb_P _ _ 5 [(0, .ref 112), (1, .int c)] (.int 1 :: []) (n, sl, kd, zpw I (s.1 + 1, s.2), L, Rf) _
    refine ep_if_ne (tgt := 16) dX11_need_5 (by decide) (fun c2 => ?_) (fun c2 => absurd (by decide) c2)
    refine ep_vret dX11_need_16 rfl ?_
    exact ⟨by unfold zp_need; rw [if_pos z1], rfl⟩
  · show eb_P _ _ 5 [(0, .ref 112), (1, .int c)] (.int 0 :: []) (n, sl, kd, zpw I (s.1, s.2), L, Rf) _
    refine ep_if_ne (tgt := 16) dX11_need_5 (by decide) (fun c3 => absurd c3 (by decide)) (fun c3 => ?_)
    refine ep_aload_n (i := 0) dX11_need_8 rfl rfl ?_
    refine ep_aload_n (i := 0) dX11_need_9 rfl rfl ?_
    refine ep_getI dX11_need_10 flX11_114 (hF.lt (by decide)) (hF.kc (by decide) rfl) ?_
    refine ep_topE (y := nI s.1) zpw_13 ?_
    refine ep_callV (M1 := mX11_fault) (rest := []) dX11_need_13 mlX11_136 mvX11_fault rfl (hF.lt (by decide)) (hF.kc (by decide) rfl) (Nat.le_of_ble_eq_true rfl) rfl (q_X11_fault (s := (s.1, s.2)) d hP (by omega) s.1) (eb_vok rfl) ?_
    rintro _ _ ⟨rfl, rfl⟩
    show eb_P _ _ 16 [(0, .ref 112), (1, .int c)] [] (n, sl, kd, zpw I ((zp_fault s.1 (s.1, s.2)).1, (zp_fault s.1 (s.1, s.2)).2), L, Rf) _
    refine ep_vret dX11_need_16 rfl ?_
    exact ⟨by unfold zp_need; rw [if_neg z1], rfl⟩
theorem q_X11_oneOf {n : Nat} {sl : Nat × Nat} {kd : Nat → Nat × Nat} {I : Nat → Nat → Int32} {L : Nat → Nat → Int64} {Rf : Nat → Nat → Option Nat} (d : Nat) {rc m ln tp : Nat} {t : Nat → Int32} (hP : zpc n kd I Rf rc m ln tp t) {s : zps} (hp : s.1 < 1000) {a k : Int32} (ha : ¬ a ≤ -1) (hk : ∀ v, v < 256 → a ≤ nI v → nI v ≤ a + k - 1 → v < 128) : eb_Q mX11_oneOf (d + 2) [.ref 112, .int a, .int k] (n, sl, kd, zpw I s, L, Rf) (eb_r (zp_one (zhr t ln tp) a k s).1 (n, sl, kd, zpw I (zp_one (zhr t ln tp) a k s).2, L, Rf)) := by
  have hF := hP.F; have hln := hP.ml; have htp := hP.tq.2
  refine ep_meth pn_X.2.2.2.2.2.2.2.2.2.2.2 (Nat.le_of_ble_eq_true rfl) ?_
  show eb_P _ _ 0 [(0, .ref 112), (1, .int a), (2, .int k)] [] (n, sl, kd, zpw I (s.1, s.2), L, Rf) _
  refine ep_aload_n (i := 0) dX11_oneOf_0 rfl rfl ?_
  refine ep_callV (M1 := mX11_fine) (rest := []) dX11_oneOf_1 mlX11_124 mvX11_fine rfl (hF.lt (by decide)) (hF.kc (by decide) rfl) (Nat.le_of_ble_eq_true rfl) rfl (q_X11_fine (s := (s.1, s.2)) (d + 1) hP (by omega)) eb_bok ?_
  rintro _ _ ⟨rfl, ⟨fi, rfl⟩ | ⟨fi, rfl⟩⟩
  · show eb_P _ _ 4 [(0, .ref 112), (1, .int a), (2, .int k)] (.int 1 :: []) _ _
    refine ep_if_ne (tgt := 9) dX11_oneOf_4 (by decide) (fun c1 => ?_) (fun c1 => absurd (by decide) c1)
    refine ep_aload_n (i := 0) dX11_oneOf_9 rfl rfl ?_
    refine ep_callV (M1 := mX11_here) (rest := []) dX11_oneOf_10 mlX11_128 mvX11_here rfl (hF.lt (by decide)) (hF.kc (by decide) rfl) (Nat.le_of_ble_eq_true rfl) rfl (q_X11_here (s := (s.1, s.2)) (d + 1) hP (by omega)) eb_rok ?_
    rintro _ _ ⟨rfl, rfl⟩
    show eb_P _ _ 13 [(0, .ref 112), (1, .int a), (2, .int k)] (.int (zhr t ln tp s.1) :: []) _ _
    refine ep_iload_n (i := 1) dX11_oneOf_13 rfl rfl ?_
    refine ep_iload_n (i := 1) dX11_oneOf_14 rfl rfl ?_
    refine ep_iload_n (i := 2) dX11_oneOf_15 rfl rfl ?_
    refine ep_iadd dX11_oneOf_16 ?_
    refine ep_iconst (v := 1) dX11_oneOf_17 (by decide) ?_
    refine ep_isub dX11_oneOf_18 ?_
    refine ep_callS (M1 := mX11_in) (rest := []) dX11_oneOf_19 mlX11_98 msX11_in rfl (Nat.le_of_ble_eq_true rfl) rfl (q_X11_in (d + 1) (zhr t ln tp s.1) a (a + k - 1) (n, sl, kd, zpw I (s.1, s.2), L, Rf)) eb_bok ?_
    rintro _ _ ⟨rfl, ⟨hin, rfl⟩ | ⟨hin, rfl⟩⟩
    · show eb_P _ _ 22 [(0, .ref 112), (1, .int a), (2, .int k)] (.int 1 :: []) _ _
      refine ep_if_ne (tgt := 35) dX11_oneOf_22 (by decide) (fun c2 => ?_) (fun c2 => absurd (by decide) c2)
      have hne : zhr t ln tp s.1 ≠ -1 := fun e => absurd (show a ≤ -1 by rw [← e]; exact hin.1) ha
      have hlt := zhr_in hne
      obtain ⟨v, hv, hve⟩ := hP.b s.1 hlt.1
      have hz : zhr t ln tp s.1 = nI v := by unfold zhr; rw [if_pos hlt, hve]; exact z_bt v hv
      have hte : t s.1 = zhr t ln tp s.1 := by rw [hz, hve]; exact z_bl v (hk v hv (by rw [← hz]; exact hin.1) (by rw [← hz]; exact hin.2))
      refine ep_aload_n (i := 0) dX11_oneOf_35 rfl rfl ?_
      refine ep_dup dX11_oneOf_36 rfl ?_
      refine ep_getI dX11_oneOf_37 flX11_114 (hF.lt (by decide)) (hF.kc (by decide) rfl) ?_
      refine ep_topE (y := nI s.1) zpw_13 ?_
      refine ep_iconst (v := 1) dX11_oneOf_40 (by decide) ?_
      refine ep_iadd dX11_oneOf_41 ?_
      refine ep_topE (y := nI (s.1 + 1)) (nI_add _ _) ?_
      refine ep_pI dX11_oneOf_42 plX11_114 (hF.lt (by decide)) (hF.lx (by decide)) (hF.kc (by decide) rfl) rfl rfl ?_
      refine ep_eq (σ2 := (n, sl, kd, zpw I ((s.1 + 1), s.2), L, Rf)) rfl rfl rfl (by rw [zpw_s13]) ?_
      refine ep_aload_n (i := 0) dX11_oneOf_45 rfl rfl ?_
      refine ep_getR dX11_oneOf_46 flX11_105 (hF.lt (by decide)) (hF.kc (by decide) rfl) hP.r ?_
      refine ep_aload_n (i := 0) dX11_oneOf_49 rfl rfl ?_
      refine ep_getI dX11_oneOf_50 flX11_114 (hF.lt (by decide)) (hF.kc (by decide) rfl) ?_
      refine ep_topE (y := nI (s.1 + 1)) zpw_13 ?_
      refine ep_iconst (v := 1) dX11_oneOf_53 (by decide) ?_
      refine ep_isub dX11_oneOf_54 ?_
      refine ep_topE (y := nI s.1) (by rw [show (1 : Int32) = nI 1 from rfl, pk_sub (by omega)]; rfl) ?_
      refine ep_baN (k := s.1) dX11_oneOf_55 (hP.F.lt hP.c.1) hP.k (by omega) (by omega) ?_
      refine ep_topE (y := t s.1) (by rw [zpw_ne hP.c.2, hP.x]) ?_
      refine ep_iload_n (i := 1) dX11_oneOf_56 rfl rfl ?_
      refine ep_isub dX11_oneOf_57 ?_
      refine ep_iret dX11_oneOf_58 rfl rfl ?_
      exact ⟨by unfold zp_one; rw [if_pos fi, if_pos hin], by unfold zp_one; rw [if_pos fi, if_pos hin, hte]⟩
    · show eb_P _ _ 22 [(0, .ref 112), (1, .int a), (2, .int k)] (.int 0 :: []) _ _
      refine ep_if_ne (tgt := 35) dX11_oneOf_22 (by decide) (fun c3 => absurd c3 (by decide)) (fun c3 => ?_)
      refine ep_aload_n (i := 0) dX11_oneOf_25 rfl rfl ?_
      refine ep_aload_n (i := 0) dX11_oneOf_26 rfl rfl ?_
      refine ep_getI dX11_oneOf_27 flX11_114 (hF.lt (by decide)) (hF.kc (by decide) rfl) ?_
      refine ep_topE (y := nI s.1) zpw_13 ?_
      refine ep_callV (M1 := mX11_fault) (rest := []) dX11_oneOf_30 mlX11_136 mvX11_fault rfl (hF.lt (by decide)) (hF.kc (by decide) rfl) (Nat.le_of_ble_eq_true rfl) rfl (q_X11_fault (s := (s.1, s.2)) d hP (by omega) s.1) (eb_vok rfl) ?_
      rintro _ _ ⟨rfl, rfl⟩
      show eb_P _ _ 33 [(0, .ref 112), (1, .int a), (2, .int k)] [] (n, sl, kd, zpw I ((zp_fault s.1 (s.1, s.2)).1, (zp_fault s.1 (s.1, s.2)).2), L, Rf) _
      refine ep_iconst (v := 0) dX11_oneOf_33 (by decide) ?_
      refine ep_iret dX11_oneOf_34 rfl rfl ?_
      exact ⟨by unfold zp_one; rw [if_pos fi, if_neg hin]; unfold zp_fault; rw [if_pos fi], by unfold zp_one; rw [if_pos fi, if_neg hin]⟩
  · show eb_P _ _ 4 [(0, .ref 112), (1, .int a), (2, .int k)] (.int 0 :: []) _ _
    refine ep_if_ne (tgt := 9) dX11_oneOf_4 (by decide) (fun c4 => absurd c4 (by decide)) (fun c4 => ?_)
    refine ep_iconst (v := 0) dX11_oneOf_7 (by decide) ?_
    refine ep_iret dX11_oneOf_8 rfl rfl ?_
    exact ⟨by unfold zp_one; rw [if_neg fi], by unfold zp_one; rw [if_neg fi]⟩
theorem z_o10 : ∀ v, v < 256 → (48 : Int32) ≤ nI v → nI v ≤ (48 : Int32) + 10 - 1 → v < 128 := by decide +kernel
theorem z_o6 : ∀ v, v < 256 → (48 : Int32) ≤ nI v → nI v ≤ (48 : Int32) + 6 - 1 → v < 128 := by decide +kernel
theorem z_o19 : ∀ v, v < 256 → (49 : Int32) ≤ nI v → nI v ≤ (49 : Int32) + 9 - 1 → v < 128 := by decide +kernel
/-- what stands at the end of a text of n signs -/
def zp_end (n : Nat) (s : zps) : zps := if s.1 < n then zp_fault s.1 s else s
theorem q_X11_wasRight {n : Nat} {sl : Nat × Nat} {kd : Nat → Nat × Nat} {I : Nat → Nat → Int32} {L : Nat → Nat → Int64} {Rf : Nat → Nat → Option Nat} (d : Nat) {rc m ln tp : Nat} {t : Nat → Int32} (hP : zpc n kd I Rf rc m ln tp t) {s : zps} (hp : s.1 < 1000)  : eb_Q mX11_wasRight (d + 2) [.ref 112] (n, sl, kd, zpw I s, L, Rf) (eb_b ((zp_end ln s).2 = -1) (n, sl, kd, zpw I (zp_end ln s), L, Rf)) := by
  have hF := hP.F; have hln := hP.ml; have htp := hP.tq.2
  refine ep_meth pn_X.2.2.2.2.2.2.2.2.2.2.2 (Nat.le_of_ble_eq_true rfl) ?_
  show eb_P _ _ 0 [(0, .ref 112)] [] (n, sl, kd, zpw I (s.1, s.2), L, Rf) _
  refine ep_aload_n (i := 0) dX11_wasRight_0 rfl rfl ?_
  refine ep_getI dX11_wasRight_1 flX11_114 (hF.lt (by decide)) (hF.kc (by decide) rfl) ?_
  refine ep_topE (y := nI s.1) zpw_13 ?_
  refine ep_aload_n (i := 0) dX11_wasRight_4 rfl rfl ?_
  refine ep_getI dX11_wasRight_5 flX11_108 (hF.lt (by decide)) (hF.kc (by decide) rfl) ?_
  refine ep_topE (y := nI ln) ((zpw_o (by decide) (by decide)).trans hP.l) ?_
  refine ep_icmp_ge (tgt := 19) dX11_wasRight_8 (by decide) (fun c1 => ?_) (fun c1 => ?_)
  · skip
    refine ep_aload_n (i := 0) dX11_wasRight_19 rfl rfl ?_
    refine ep_callV (M1 := mX11_fine) (rest := []) dX11_wasRight_20 mlX11_124 mvX11_fine rfl (hF.lt (by decide)) (hF.kc (by decide) rfl) (Nat.le_of_ble_eq_true rfl) rfl (q_X11_fine (s := (s.1, s.2)) (d + 1) hP (by first | omega | (unfold zp_fault; split <;> simp <;> omega))) eb_bok ?_
    rintro _ _ ⟨rfl, ⟨fi, rfl⟩ | ⟨fi, rfl⟩⟩
    · show eb_P _ _ 23 [(0, .ref 112)] (.int 1 :: []) _ _
      refine ep_iret dX11_wasRight_23 rfl (by decide) ?_
      have e : zp_end ln s = s := by unfold zp_end; rw [if_neg (fun e => absurd (nI_lt e (by omega)) (Int32.not_lt.mpr (by assumption)))]
      exact ⟨by rw [e], Or.inl ⟨by rw [e]; exact fi, rfl⟩⟩
    · show eb_P _ _ 23 [(0, .ref 112)] (.int 0 :: []) _ _
      refine ep_iret dX11_wasRight_23 rfl (by decide) ?_
      have e : zp_end ln s = s := by unfold zp_end; rw [if_neg (fun e => absurd (nI_lt e (by omega)) (Int32.not_lt.mpr (by assumption)))]
      exact ⟨by rw [e], Or.inr ⟨by rw [e]; exact fi, rfl⟩⟩
  · skip
    refine ep_aload_n (i := 0) dX11_wasRight_11 rfl rfl ?_
    refine ep_aload_n (i := 0) dX11_wasRight_12 rfl rfl ?_
    refine ep_getI dX11_wasRight_13 flX11_114 (hF.lt (by decide)) (hF.kc (by decide) rfl) ?_
    refine ep_topE (y := nI s.1) zpw_13 ?_
    refine ep_callV (M1 := mX11_fault) (rest := []) dX11_wasRight_16 mlX11_136 mvX11_fault rfl (hF.lt (by decide)) (hF.kc (by decide) rfl) (Nat.le_of_ble_eq_true rfl) rfl (q_X11_fault (s := (s.1, s.2)) d hP (by omega) s.1) (eb_vok rfl) ?_
    rintro _ _ ⟨rfl, rfl⟩
    show eb_P _ _ 19 [(0, .ref 112)] [] (n, sl, kd, zpw I ((zp_fault s.1 (s.1, s.2)).1, (zp_fault s.1 (s.1, s.2)).2), L, Rf) _
    refine ep_aload_n (i := 0) dX11_wasRight_19 rfl rfl ?_
    refine ep_callV (M1 := mX11_fine) (rest := []) dX11_wasRight_20 mlX11_124 mvX11_fine rfl (hF.lt (by decide)) (hF.kc (by decide) rfl) (Nat.le_of_ble_eq_true rfl) rfl (q_X11_fine (s := ((zp_fault s.1 (s.1, s.2)).1, (zp_fault s.1 (s.1, s.2)).2)) (d + 1) hP (by first | omega | (unfold zp_fault; split <;> simp <;> omega))) eb_bok ?_
    rintro _ _ ⟨rfl, ⟨fi, rfl⟩ | ⟨fi, rfl⟩⟩
    · show eb_P _ _ 23 [(0, .ref 112)] (.int 1 :: []) _ _
      refine ep_iret dX11_wasRight_23 rfl (by decide) ?_
      have e : zp_end ln s = zp_fault s.1 s := by unfold zp_end; rw [if_pos (Nat.lt_of_not_le (fun e => absurd (nI_le e (by omega)) (by assumption)))]
      exact ⟨by rw [e], Or.inl ⟨by rw [e]; exact fi, rfl⟩⟩
    · show eb_P _ _ 23 [(0, .ref 112)] (.int 0 :: []) _ _
      refine ep_iret dX11_wasRight_23 rfl (by decide) ?_
      have e : zp_end ln s = zp_fault s.1 s := by unfold zp_end; rw [if_pos (Nat.lt_of_not_le (fun e => absurd (nI_le e (by omega)) (by assumption)))]
      exact ⟨by rw [e], Or.inr ⟨by rw [e]; exact fi, rfl⟩⟩
