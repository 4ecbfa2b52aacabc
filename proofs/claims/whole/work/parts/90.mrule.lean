/-! the reference: readRule -/
theorem zpw_19 {J : Nat → Nat → Int32} {s : zps} {v : Int32} : z_set (zpw J s) 112 19 v = zpw (z_set J 112 19 v) s := by
  funext a i; simp only [zpw, z_set]
  by_cases h : a = 112 ∧ i = 19
  · rw [if_pos h, if_neg (by omega), if_neg (by omega), if_pos h]
  · rw [if_neg h, if_neg h]
def zBP (n : Nat) (kd : Nat → Nat × Nat) (J : Nat → Nat → Int32) (R1 : Nat → Nat → Option Nat) (ln : Nat) (t : Nat → Int32) : Prop := zpc n kd J R1 116 80 ln 40 t
theorem zBP.P {n : Nat} {kd : Nat → Nat × Nat} {J : Nat → Nat → Int32} {R1 : Nat → Nat → Option Nat} {ln : Nat} {t : Nat → Int32} (h : zBP n kd J R1 ln t) : zpc n kd J R1 116 80 ln 40 t := h
theorem zB.P19 {n : Nat} {kd : Nat → Nat × Nat} {I J : Nat → Nat → Int32} {Rf R1 : Nat → Nat → Option Nat} {T : zT} (h : zB n kd I Rf T 40 J R1) : zBP n kd (z_set J 112 19 0) R1 T.tx.length (I 116) :=
  ⟨h.P.F, h.P.r, h.P.k, h.P.ml, h.P.c, by rw [z_set_nk (by decide)]; exact h.P.l, by rw [z_set_nk (by decide)]; exact h.P.tq, by rw [z_set_ne (by decide)]; exact h.P.x, h.P.b⟩
/-- where the reading of a rule of n signs ends -/
def zrS (t : Nat → Int32) (n : Nat) : zps := if n = 0 then (0, -1) else (zp (zhr t n 40) (fun _ => 0) 300 0 0 0 (0, -1)).2
theorem zrS_b {t : Nat → Int32} {n : Nat} : (zrS t n).1 ≤ 40 := by
  unfold zrS
  split
  · exact Nat.zero_le _
  · exact (zp_bd (hr := zhr t n 40) (fun p h => by
      by_cases e : p < n ∧ p < 40
      · exact e.2
      · exact absurd (by unfold zhr; rw [if_neg e]) h) 300 0 0 0 (0, -1) (by decide) (by decide)).2
theorem zrd_e {t : Nat → Int32} {n : Nat} : (zp_end n (zrS t n)).2 = zrdM t n := by
  unfold zrdM zp_end
  show _ = (if (zrS t n).1 < n then (zp_fault (zrS t n).1 (zrS t n)).2 else (zrS t n).2)
  split <;> rfl
/-- behind readRule -/
def zpR (n : Nat) (sl : Nat × Nat) (kd : Nat → Nat × Nat) (I : Nat → Nat → Int32) (L : Nat → Nat → Int64) (Rf : Nat → Nat → Option Nat) (T : zT) : Option Value → eb_S → Prop := fun r τ => ∃ J R1 sp, τ = (n, sl, kd, zpw (z_set J 112 19 0) sp, L, R1) ∧ zB n kd I Rf T 40 J R1 ∧ sp.2 = zrdM (I 116) T.tx.length ∧ ((sp.2 = -1 ∧ r = some (.int 1)) ∨ (¬ sp.2 = -1 ∧ r = some (.int 0)))
theorem k_rr {n : Nat} {sl : Nat × Nat} {kd : Nat → Nat × Nat} {I : Nat → Nat → Int32} {L : Nat → Nat → Int64} {Rf : Nat → Nat → Option Nat} (d : Nat) {T : zT} {H : Nat} (hM : zM n kd I L Rf T) (hO : zOk H T) : eb_Q mX11_readRule (d + 312) [.ref 112] (n, sl, kd, z_set I 112 9 0, L, Rf) (zpR n sl kd I L Rf T) := by
  have hF := hM.F; have hx8 := hO.txl
  refine ep_meth pn_X.2.2.2.2.2.2.2.2.2.2.2 (Nat.le_of_ble_eq_true rfl) ?_
  show eb_P _ _ 0 [(0, .ref 112)] [] (n, sl, kd, z_set I 112 9 0, L, Rf) _
  refine ep_aload_n (i := 0) dX11_readRule_0 rfl rfl ?_
  refine ep_bipush (v := 40) dX11_readRule_1 (by decide) ?_
  refine ep_callV (M1 := mX11_beginText) (rest := []) dX11_readRule_3 mlX11_144 mvX11_beginText rfl (hF.lt (by decide)) (hF.kc (by decide) rfl) (Nat.le_of_ble_eq_true rfl) rfl (k_bt (I := I) (L := L) (d + 310) hM hO (tp := 40) (by decide)) (fun _ _ h => Or.inl (by obtain ⟨_, J, R1, h, _⟩ := h; rw [h])) ?_
  rintro _ _ ⟨rfl, J0, R1, rfl, hB⟩
  replace hF := hB.P.F
  show eb_P _ _ 6 [(0, .ref 112)] [] (n, sl, kd, (zpw J0 (0, -1)), L, R1) _
  refine ep_aload_n (i := 0) dX11_readRule_6 rfl rfl ?_
  refine ep_iconst (v := 0) dX11_readRule_7 (by decide) ?_
  refine ep_pI dX11_readRule_8 plX11_182 (hF.lt (by decide)) (hF.lx (by decide)) (hF.kc (by decide) rfl) rfl rfl ?_
  refine ep_eq (σ2 := (n, sl, kd, zpw (z_set J0 112 19 0) (0, -1), L, R1)) rfl rfl rfl (by rw [zpw_19]) ?_
  have hP9 : zBP n kd (z_set J0 112 19 0) R1 T.tx.length (I 116) := hB.P19
  refine ep_aload_n (i := 0) dX11_readRule_11 rfl rfl ?_
  refine ep_getI dX11_readRule_12 flX11_108 (hF.lt (by decide)) (hF.kc (by decide) rfl) ?_
  refine ep_topE (y := nI T.tx.length) ((zpw_o (by decide) (by decide)).trans hP9.P.l) ?_
  refine ep_if_le (tgt := 24) dX11_readRule_15 (by decide) (fun c1 => ?_) (fun c1 => ?_)
  · skip
    refine ep_aload_n (i := 0) dX11_readRule_24 rfl rfl ?_
    have hz0 : T.tx.length = 0 := Nat.le_zero.mp (nI_leN c1 (by omega))
    rw [show ((0, -1) : zps) = zrS (I 116) T.tx.length from by unfold zrS; rw [if_pos hz0]]
    refine ep_callV (M1 := mX11_wasRight) (rest := []) dX11_readRule_25 mlX11_147 mvX11_wasRight rfl (hF.lt (by decide)) (hF.kc (by decide) rfl) (Nat.le_of_ble_eq_true rfl) rfl (q_X11_wasRight (I := z_set J0 112 19 0) (L := L) (d + 309) hP9.P (s := zrS (I 116) T.tx.length) (by have := zrS_b (t := I 116) (n := T.tx.length); omega)) (fun _ _ g => Or.inl (by rw [g.1])) ?_
    rintro _ _ ⟨rfl, ⟨hb, rfl⟩ | ⟨hb, rfl⟩⟩
    · show eb_P _ _ 28 [(0, .ref 112)] (.int 1 :: []) (n, sl, kd, (zpw (z_set J0 112 19 0) (zp_end T.tx.length (zrS (I 116) T.tx.length))), L, R1) _
      refine ep_iret dX11_readRule_28 rfl (by decide) ?_
      exact ⟨J0, R1, _, rfl, hB, zrd_e, Or.inl ⟨hb, rfl⟩⟩
    · show eb_P _ _ 28 [(0, .ref 112)] (.int 0 :: []) (n, sl, kd, (zpw (z_set J0 112 19 0) (zp_end T.tx.length (zrS (I 116) T.tx.length))), L, R1) _
      refine ep_iret dX11_readRule_28 rfl (by decide) ?_
      exact ⟨J0, R1, _, rfl, hB, zrd_e, Or.inr ⟨hb, rfl⟩⟩
  · skip
    refine ep_aload_n (i := 0) dX11_readRule_18 rfl rfl ?_
    refine ep_iconst (v := 0) dX11_readRule_19 (by decide) ?_
    refine ep_callV (M1 := mX11_held) (rest := []) dX11_readRule_20 mlX11_169 mvX11_held rfl (hF.lt (by decide)) (hF.kc (by decide) rfl) (Nat.le_of_ble_eq_true rfl) rfl (q_X11_held (I := z_set J0 112 19 0) (L := L) (as := fun _ => 0) hP9.P (Or.inr ⟨z_set_at, fun _ => rfl⟩) (d + 6)) (fun _ _ g => Or.inl (by rw [g.1])) ?_
    rintro _ _ ⟨rfl, rfl⟩
    obtain ⟨vh, hvh⟩ : ∃ z, z = (zp (zhr (I 116) T.tx.length 40) (fun _ => 0) 300 0 0 0 (0, -1)).1 := ⟨_, rfl⟩
    have hz0 : ¬ T.tx.length = 0 := fun e => c1 (by rw [e]; decide)
    rw [← hvh, show (zp (zhr (I 116) T.tx.length 40) (fun _ => 0) 300 0 0 0 (0, -1)).2 = zrS (I 116) T.tx.length from by unfold zrS; rw [if_neg hz0]]
    show eb_P _ _ 23 [(0, .ref 112)] (.int vh :: []) (n, sl, kd, (zpw (z_set J0 112 19 0) (zrS (I 116) T.tx.length)), L, R1) _
    refine ep_pop dX11_readRule_23 rfl ?_
    refine ep_aload_n (i := 0) dX11_readRule_24 rfl rfl ?_
    refine ep_callV (M1 := mX11_wasRight) (rest := []) dX11_readRule_25 mlX11_147 mvX11_wasRight rfl (hF.lt (by decide)) (hF.kc (by decide) rfl) (Nat.le_of_ble_eq_true rfl) rfl (q_X11_wasRight (I := z_set J0 112 19 0) (L := L) (d + 309) hP9.P (s := zrS (I 116) T.tx.length) (by have := zrS_b (t := I 116) (n := T.tx.length); omega)) (fun _ _ g => Or.inl (by rw [g.1])) ?_
    rintro _ _ ⟨rfl, ⟨hb, rfl⟩ | ⟨hb, rfl⟩⟩
    · show eb_P _ _ 28 [(0, .ref 112)] (.int 1 :: []) (n, sl, kd, (zpw (z_set J0 112 19 0) (zp_end T.tx.length (zrS (I 116) T.tx.length))), L, R1) _
      refine ep_iret dX11_readRule_28 rfl (by decide) ?_
      exact ⟨J0, R1, _, rfl, hB, zrd_e, Or.inl ⟨hb, rfl⟩⟩
    · show eb_P _ _ 28 [(0, .ref 112)] (.int 0 :: []) (n, sl, kd, (zpw (z_set J0 112 19 0) (zp_end T.tx.length (zrS (I 116) T.tx.length))), L, R1) _
      refine ep_iret dX11_readRule_28 rfl (by decide) ?_
      exact ⟨J0, R1, _, rfl, hB, zrd_e, Or.inr ⟨hb, rfl⟩⟩
