/-! the reference: an act of the watch -/
/-- what an act does: refused where the first is below 0 -/
def q_act (T : zT) (ch b t : Int32) : Int32 × (Nat → Int32) := if ch = 110 then (0, zhk T T.x b.toNatClampNeg) else if ch = 116 then q_tell T b t else if ch = 109 then q_move T b t else if ch = 101 then q_ease T b else if ch = 112 then q_preach T b t else q_sail T b
def zba (q : Int32 × (Nat → Int32)) : Int32 := if q.1 < 0 then 0 else 1
def zpT (n : Nat) (sl : Nat × Nat) (kd : Nat → Nat × Nat) (I0 : Nat → Nat → Int32) (L0 : Nat → Nat → Int64) (Rf : Nat → Nat → Option Nat) (g : Nat → Nat → Int32) (L : Nat → Nat → Int64) (T : zT) (x : Nat → Int32) (v : Int32) (y : Nat → Int32) : Option Value → eb_S → Prop := fun r τ => r = some (.int v) ∧ ∃ I1 o1, τ = (n, sl, kd, I1, L, Rf) ∧ zQ n kd I0 L0 Rf g I1 L (T.w_x y) x o1
theorem zpT_ok {n : Nat} {sl : Nat × Nat} {kd : Nat → Nat × Nat} {I0 : Nat → Nat → Int32} {L0 : Nat → Nat → Int64} {Rf : Nat → Nat → Option Nat} {g : Nat → Nat → Int32} {L : Nat → Nat → Int64} {T : zT} {x : Nat → Int32} {v : Int32} {y : Nat → Int32} {l : List (Nat × Value)} {rest : List Value} : ∀ r1 σ1, zpT n sl kd I0 L0 Rf g L T x v y r1 σ1 → σ1.1 = n ∨ ((∀ q ∈ l, eb_okv n q.2) ∧ ∀ v ∈ rest, eb_okv n v) := fun _ _ h => Or.inl (by obtain ⟨_, I1, o1, h, _⟩ := h; rw [h])
theorem y_act_n {n : Nat} {sl : Nat × Nat} {kd : Nat → Nat × Nat} {I : Nat → Nat → Int32} {L : Nat → Nat → Int64} {Rf : Nat → Nat → Option Nat} (d : Nat) {T : zT} {H : Nat} {I0 g : Nat → Nat → Int32} {L0 : Nat → Nat → Int64} {x : Nat → Int32} {o : Int32} (hQ : zQ n kd I0 L0 Rf g I L T x o) (hO : zOk H T) (hH : H ≤ 1000000000) {N : Nat} (hN : N < 10) {t : Int32}  : zq mX11_act (d + 350) [.ref 112, .int 110, .int (nI N), .int t] (n, sl, kd, I, L, Rf) (zpT n sl kd I0 L0 Rf g L T x 1 (zhk T T.x N)) := by
  have hF := hQ.M.F; have hc7 := hO.c
  intro f B
  refine ez_meth pn_X.2.2.2.2.2.2.2.2.2.2.2 (Nat.le_of_ble_eq_true rfl) ?_
  show ez_P _ _ _ _ _ _ 0 [(0, .ref 112), (1, .int 110), (2, .int (nI N)), (3, .int t)] [] (n, sl, kd, I, L, Rf) _
  refine ez_iload_n (i := 1) dX11_act_0 rfl rfl ?_
  refine ez_lookup (off := 51) (tgt := 52) dX11_act_1 (by decide) (by decide) (by decide) ?_
  refine ez_aload_n (i := 0) dX11_act_52 rfl rfl ?_
  refine ez_aload_n (i := 0) dX11_act_53 rfl rfl ?_
  refine ez_getR dX11_act_54 flX11_9 (hF.lt (by decide)) (hF.kc (by decide) rfl) (hF.pt 107 rfl) ?_
  refine ez_iload_n (i := 2) dX11_act_57 rfl rfl ?_
  refine ez_callV (M1 := mX11_goHours) (rest := []) dX11_act_58 mlX11_249 mvX11_goHours rfl (hF.lt (by decide)) (hF.kc (by decide) rfl) (Nat.le_of_ble_eq_true rfl) rfl (y_X11_goHours (I := I) (N := N) (d + 38) hQ.M.W hc7 (Or.inl rfl) hQ.M.x hO.x (by omega) (by omega) hO.wm hO.wd) zpH_ok ?_
  rintro _ _ ⟨rfl, I1, rfl, hq2⟩
  show ez_P _ _ _ _ _ _ 61 [(0, .ref 112), (1, .int 110), (2, .int (nI N)), (3, .int t)] [] (n, sl, kd, I1, L, Rf) _
  have hQ3 : zQ n kd I0 L0 Rf g I1 L (T.w_x (zhk T T.x N)) x (zhc T T.x N) := by exact hQ.hpn hq2
  refine ez_iconst (v := 1) dX11_act_61 (by decide) ?_
  refine ez_iret dX11_act_62 rfl (by decide) ?_
  exact ⟨rfl, _, _, rfl, hQ3⟩
theorem y_act_tell_no {n : Nat} {sl : Nat × Nat} {kd : Nat → Nat × Nat} {I : Nat → Nat → Int32} {L : Nat → Nat → Int64} {Rf : Nat → Nat → Option Nat} (d : Nat) {T : zT} {H : Nat} {I0 g : Nat → Nat → Int32} {L0 : Nat → Nat → Int64} {x : Nat → Int32} {o : Int32} (hQ : zQ n kd I0 L0 Rf g I L T x o) (hO : zOk H T) (hH : H ≤ 1000000000) {b : Int32} (hb : ¬ (0 ≤ b ∧ b < nI T.c)) {t : Int32}  : zq mX11_act (d + 350) [.ref 112, .int 116, .int b, .int t] (n, sl, kd, I, L, Rf) (zpT n sl kd I0 L0 Rf g L T x 0 (T.x)) := by
  have hF := hQ.M.F; have hc7 := hO.c
  intro f B
  refine ez_meth pn_X.2.2.2.2.2.2.2.2.2.2.2 (Nat.le_of_ble_eq_true rfl) ?_
  show ez_P _ _ _ _ _ _ 0 [(0, .ref 112), (1, .int 116), (2, .int b), (3, .int t)] [] (n, sl, kd, I, L, Rf) _
  refine ez_iload_n (i := 1) dX11_act_0 rfl rfl ?_
  refine ez_lookup (off := 62) (tgt := 63) dX11_act_1 (by decide) (by decide) (by decide) ?_
  refine ez_aload_n (i := 0) dX11_act_63 rfl rfl ?_
  refine ez_iload_n (i := 2) dX11_act_64 rfl rfl ?_
  refine ez_iload_n (i := 3) dX11_act_65 rfl rfl ?_
  refine ez_callV (M1 := mX11_refusesTelling) (rest := []) dX11_act_66 mlX11_256 mvX11_refusesTelling rfl (hF.lt (by decide)) (hF.kc (by decide) rfl) (Nat.le_of_ble_eq_true rfl) rfl (y_X11_refusesTelling_no (d + 347) hQ.M hO hb) eb_rok ?_
  rintro _ _ ⟨rfl, rfl⟩
  show ez_P _ _ _ _ _ _ 69 [(0, .ref 112), (1, .int 116), (2, .int b), (3, .int t)] (.int ((-1)) :: []) _ _
  refine ez_if_ge (tgt := 74) dX11_act_69 (by decide) (fun c1 => absurd c1 (by decide)) (fun c1 => ?_)
  refine ez_iconst (v := 0) dX11_act_72 (by decide) ?_
  refine ez_iret dX11_act_73 rfl (by decide) ?_
  exact ⟨rfl, _, _, rfl, hQ⟩
theorem y_act_tell_nx {n : Nat} {sl : Nat × Nat} {kd : Nat → Nat × Nat} {I : Nat → Nat → Int32} {L : Nat → Nat → Int64} {Rf : Nat → Nat → Option Nat} (d : Nat) {T : zT} {H : Nat} {I0 g : Nat → Nat → Int32} {L0 : Nat → Nat → Int64} {x : Nat → Int32} {o : Int32} (hQ : zQ n kd I0 L0 Rf g I L T x o) (hO : zOk H T) (hH : H ≤ 1000000000) {b0 : Nat} (hb : b0 < T.c) {t : Int32} (ht : ¬ (0 ≤ t ∧ t ≤ 5))  : zq mX11_act (d + 350) [.ref 112, .int 116, .int (nI b0), .int t] (n, sl, kd, I, L, Rf) (zpT n sl kd I0 L0 Rf g L T x 0 (T.x)) := by
  have hF := hQ.M.F; have hc7 := hO.c
  intro f B
  refine ez_meth pn_X.2.2.2.2.2.2.2.2.2.2.2 (Nat.le_of_ble_eq_true rfl) ?_
  show ez_P _ _ _ _ _ _ 0 [(0, .ref 112), (1, .int 116), (2, .int (nI b0)), (3, .int t)] [] (n, sl, kd, I, L, Rf) _
  refine ez_iload_n (i := 1) dX11_act_0 rfl rfl ?_
  refine ez_lookup (off := 62) (tgt := 63) dX11_act_1 (by decide) (by decide) (by decide) ?_
  refine ez_aload_n (i := 0) dX11_act_63 rfl rfl ?_
  refine ez_iload_n (i := 2) dX11_act_64 rfl rfl ?_
  refine ez_iload_n (i := 3) dX11_act_65 rfl rfl ?_
  refine ez_callV (M1 := mX11_refusesTelling) (rest := []) dX11_act_66 mlX11_256 mvX11_refusesTelling rfl (hF.lt (by decide)) (hF.kc (by decide) rfl) (Nat.le_of_ble_eq_true rfl) rfl (y_X11_refusesTelling_nx (d + 347) hQ.M hO hb ht) eb_rok ?_
  rintro _ _ ⟨rfl, rfl⟩
  show ez_P _ _ _ _ _ _ 69 [(0, .ref 112), (1, .int 116), (2, .int (nI b0)), (3, .int t)] (.int ((-1)) :: []) _ _
  refine ez_if_ge (tgt := 74) dX11_act_69 (by decide) (fun c1 => absurd c1 (by decide)) (fun c1 => ?_)
  refine ez_iconst (v := 0) dX11_act_72 (by decide) ?_
  refine ez_iret dX11_act_73 rfl (by decide) ?_
  exact ⟨rfl, _, _, rfl, hQ⟩
theorem y_act_tell_eq {n : Nat} {sl : Nat × Nat} {kd : Nat → Nat × Nat} {I : Nat → Nat → Int32} {L : Nat → Nat → Int64} {Rf : Nat → Nat → Option Nat} (d : Nat) {T : zT} {H : Nat} {I0 g : Nat → Nat → Int32} {L0 : Nat → Nat → Int64} {x : Nat → Int32} {o : Int32} (hQ : zQ n kd I0 L0 Rf g I L T x o) (hO : zOk H T) (hH : H ≤ 1000000000) {b0 : Nat} (hb : b0 < T.c) {t : Int32} (ht : 0 ≤ t ∧ t ≤ 5) (he : T.x (7 + b0) = t)  : zq mX11_act (d + 350) [.ref 112, .int 116, .int (nI b0), .int t] (n, sl, kd, I, L, Rf) (zpT n sl kd I0 L0 Rf g L T x 0 (T.x)) := by
  have hF := hQ.M.F; have hc7 := hO.c
  intro f B
  refine ez_meth pn_X.2.2.2.2.2.2.2.2.2.2.2 (Nat.le_of_ble_eq_true rfl) ?_
  show ez_P _ _ _ _ _ _ 0 [(0, .ref 112), (1, .int 116), (2, .int (nI b0)), (3, .int t)] [] (n, sl, kd, I, L, Rf) _
  refine ez_iload_n (i := 1) dX11_act_0 rfl rfl ?_
  refine ez_lookup (off := 62) (tgt := 63) dX11_act_1 (by decide) (by decide) (by decide) ?_
  refine ez_aload_n (i := 0) dX11_act_63 rfl rfl ?_
  refine ez_iload_n (i := 2) dX11_act_64 rfl rfl ?_
  refine ez_iload_n (i := 3) dX11_act_65 rfl rfl ?_
  refine ez_callV (M1 := mX11_refusesTelling) (rest := []) dX11_act_66 mlX11_256 mvX11_refusesTelling rfl (hF.lt (by decide)) (hF.kc (by decide) rfl) (Nat.le_of_ble_eq_true rfl) rfl (y_X11_refusesTelling_eq (d + 347) hQ.M hO hb ht he) eb_rok ?_
  rintro _ _ ⟨rfl, rfl⟩
  show ez_P _ _ _ _ _ _ 69 [(0, .ref 112), (1, .int 116), (2, .int (nI b0)), (3, .int t)] (.int ((-2)) :: []) _ _
  refine ez_if_ge (tgt := 74) dX11_act_69 (by decide) (fun c1 => absurd c1 (by decide)) (fun c1 => ?_)
  refine ez_iconst (v := 0) dX11_act_72 (by decide) ?_
  refine ez_iret dX11_act_73 rfl (by decide) ?_
  exact ⟨rfl, _, _, rfl, hQ⟩
theorem y_act_tell_ok {n : Nat} {sl : Nat × Nat} {kd : Nat → Nat × Nat} {I : Nat → Nat → Int32} {L : Nat → Nat → Int64} {Rf : Nat → Nat → Option Nat} (d : Nat) {T : zT} {H : Nat} {I0 g : Nat → Nat → Int32} {L0 : Nat → Nat → Int64} {x : Nat → Int32} {o : Int32} (hQ : zQ n kd I0 L0 Rf g I L T x o) (hO : zOk H T) (hH : H ≤ 1000000000) {b0 : Nat} (hb : b0 < T.c) {t : Int32} (ht : 0 ≤ t ∧ t ≤ 5) (he : T.x (7 + b0) ≠ t)  : zq mX11_act (d + 350) [.ref 112, .int 116, .int (nI b0), .int t] (n, sl, kd, I, L, Rf) (zpT n sl kd I0 L0 Rf g L T x 1 (zup T.x (7 + b0) t)) := by
  have hF := hQ.M.F; have hc7 := hO.c
  intro f B
  refine ez_meth pn_X.2.2.2.2.2.2.2.2.2.2.2 (Nat.le_of_ble_eq_true rfl) ?_
  show ez_P _ _ _ _ _ _ 0 [(0, .ref 112), (1, .int 116), (2, .int (nI b0)), (3, .int t)] [] (n, sl, kd, I, L, Rf) _
  refine ez_iload_n (i := 1) dX11_act_0 rfl rfl ?_
  refine ez_lookup (off := 62) (tgt := 63) dX11_act_1 (by decide) (by decide) (by decide) ?_
  refine ez_aload_n (i := 0) dX11_act_63 rfl rfl ?_
  refine ez_iload_n (i := 2) dX11_act_64 rfl rfl ?_
  refine ez_iload_n (i := 3) dX11_act_65 rfl rfl ?_
  refine ez_callV (M1 := mX11_refusesTelling) (rest := []) dX11_act_66 mlX11_256 mvX11_refusesTelling rfl (hF.lt (by decide)) (hF.kc (by decide) rfl) (Nat.le_of_ble_eq_true rfl) rfl (y_X11_refusesTelling_ok (d + 347) hQ.M hO hb ht he) eb_rok ?_
  rintro _ _ ⟨rfl, rfl⟩
  show ez_P _ _ _ _ _ _ 69 [(0, .ref 112), (1, .int 116), (2, .int (nI b0)), (3, .int t)] (.int 0 :: []) _ _
  refine ez_if_ge (tgt := 74) dX11_act_69 (by decide) (fun c1 => ?_) (fun c1 => absurd (by decide) c1)
  refine ez_aload_n (i := 0) dX11_act_74 rfl rfl ?_
  refine ez_getR dX11_act_75 flX11_9 (hF.lt (by decide)) (hF.kc (by decide) rfl) (hF.pt 107 rfl) ?_
  refine ez_bipush (v := 7) dX11_act_78 (by decide) ?_
  refine ez_iload_n (i := 2) dX11_act_80 rfl rfl ?_
  refine ez_iadd dX11_act_81 ?_
  refine ez_topE (y := nI (7 + b0)) (nI_add _ _) ?_
  refine ez_iload_n (i := 3) dX11_act_82 rfl rfl ?_
  refine ez_isN (k := (7 + b0)) dX11_act_83 (hF.lt (by decide)) (hF.lx (by decide)) (hF.ka (by decide) rfl) (by omega) (by decide) ?_
  refine ez_nmI (fun I2 hI2 => ?_)
  have hQ3 : zQ n kd I0 L0 Rf g I2 L (T.w_x (zup T.x (7 + b0) t)) x o := by rw [hI2]; exact hQ.nset
  refine ez_iconst (v := 1) dX11_act_84 (by decide) ?_
  refine ez_iret dX11_act_85 rfl (by decide) ?_
  exact ⟨rfl, _, _, rfl, hQ3⟩
theorem y_act_tell {n : Nat} {sl : Nat × Nat} {kd : Nat → Nat × Nat} {I : Nat → Nat → Int32} {L : Nat → Nat → Int64} {Rf : Nat → Nat → Option Nat} (d : Nat) {T : zT} {H : Nat} {I0 g : Nat → Nat → Int32} {L0 : Nat → Nat → Int64} {x : Nat → Int32} {o : Int32} (hQ : zQ n kd I0 L0 Rf g I L T x o) (hO : zOk H T) (hH : H ≤ 1000000000) (b : Int32) (t : Int32) : zq mX11_act (d + 350) [.ref 112, .int 116, .int b, .int t] (n, sl, kd, I, L, Rf) (zpT n sl kd I0 L0 Rf g L T x (zba (q_tell T b t)) (q_tell T b t).2) := by
  by_cases hb0 : 0 ≤ b ∧ b < nI T.c
  · obtain ⟨b0, hb, rfl⟩ := pk_of (by have := hO.c; omega) hb0.1 hb0.2
    by_cases ht : 0 ≤ t ∧ t ≤ 5
    · by_cases he : T.x (7 + b0) = t
      · rw [show q_tell T (nI b0) t = (-2, T.x) from by unfold q_tell; rw [if_pos (⟨z_bin hb hO.c, ht⟩), z_btn hb hO.c, if_pos he]]
        exact y_act_tell_eq d hQ hO hH hb ht he
      · have hv : ¬ (10 + T.x (7 + b0) < 0) := by obtain ⟨k, hk, e⟩ := hO.x.t b0 hb; rw [e]; exact z_10_k k (by omega)
        rw [show q_tell T (nI b0) t = (10 + T.x (7 + b0), zup T.x (7 + b0) t) from by unfold q_tell; rw [if_pos (⟨z_bin hb hO.c, ht⟩), z_btn hb hO.c, if_neg he], show zba (10 + T.x (7 + b0), zup T.x (7 + b0) t) = 1 from if_neg hv]
        exact y_act_tell_ok d hQ hO hH hb ht he
    · rw [show q_tell T (nI b0) t = (-1, T.x) from by unfold q_tell; rw [if_neg (fun e => ht e.2)]]
      exact y_act_tell_nx d hQ hO hH hb ht
  · rw [show q_tell T b t = (-1, T.x) from by unfold q_tell; rw [if_neg (fun e => hb0 e.1)]]
    exact y_act_tell_no d hQ hO hH hb0
theorem y_act_move_no {n : Nat} {sl : Nat × Nat} {kd : Nat → Nat × Nat} {I : Nat → Nat → Int32} {L : Nat → Nat → Int64} {Rf : Nat → Nat → Option Nat} (d : Nat) {T : zT} {H : Nat} {I0 g : Nat → Nat → Int32} {L0 : Nat → Nat → Int64} {x : Nat → Int32} {o : Int32} (hQ : zQ n kd I0 L0 Rf g I L T x o) (hO : zOk H T) (hH : H ≤ 1000000000) {b : Int32} (hb : ¬ (0 ≤ b ∧ b < nI T.c)) {t : Int32}  : zq mX11_act (d + 350) [.ref 112, .int 109, .int b, .int t] (n, sl, kd, I, L, Rf) (zpT n sl kd I0 L0 Rf g L T x 0 (T.x)) := by
  have hF := hQ.M.F; have hc7 := hO.c
  intro f B
  refine ez_meth pn_X.2.2.2.2.2.2.2.2.2.2.2 (Nat.le_of_ble_eq_true rfl) ?_
  show ez_P _ _ _ _ _ _ 0 [(0, .ref 112), (1, .int 109), (2, .int b), (3, .int t)] [] (n, sl, kd, I, L, Rf) _
  refine ez_iload_n (i := 1) dX11_act_0 rfl rfl ?_
  refine ez_lookup (off := 85) (tgt := 86) dX11_act_1 (by decide) (by decide) (by decide) ?_
  refine ez_aload_n (i := 0) dX11_act_86 rfl rfl ?_
  refine ez_iload_n (i := 2) dX11_act_87 rfl rfl ?_
  refine ez_iload_n (i := 3) dX11_act_88 rfl rfl ?_
  refine ez_callV (M1 := mX11_refusesMove) (rest := []) dX11_act_89 mlX11_259 mvX11_refusesMove rfl (hF.lt (by decide)) (hF.kc (by decide) rfl) (Nat.le_of_ble_eq_true rfl) rfl (y_X11_refusesMove_no (d + 347) hQ.M hO hb) eb_rok ?_
  rintro _ _ ⟨rfl, rfl⟩
  show ez_P _ _ _ _ _ _ 92 [(0, .ref 112), (1, .int 109), (2, .int b), (3, .int t)] (.int ((-1)) :: []) _ _
  refine ez_if_ge (tgt := 97) dX11_act_92 (by decide) (fun c1 => absurd c1 (by decide)) (fun c1 => ?_)
  refine ez_iconst (v := 0) dX11_act_95 (by decide) ?_
  refine ez_iret dX11_act_96 rfl (by decide) ?_
  exact ⟨rfl, _, _, rfl, hQ⟩
theorem y_act_move_nx {n : Nat} {sl : Nat × Nat} {kd : Nat → Nat × Nat} {I : Nat → Nat → Int32} {L : Nat → Nat → Int64} {Rf : Nat → Nat → Option Nat} (d : Nat) {T : zT} {H : Nat} {I0 g : Nat → Nat → Int32} {L0 : Nat → Nat → Int64} {x : Nat → Int32} {o : Int32} (hQ : zQ n kd I0 L0 Rf g I L T x o) (hO : zOk H T) (hH : H ≤ 1000000000) {b0 : Nat} (hb : b0 < T.c) {t : Int32} (ht : ¬ ((-5) ≤ t ∧ t ≤ 5))  : zq mX11_act (d + 350) [.ref 112, .int 109, .int (nI b0), .int t] (n, sl, kd, I, L, Rf) (zpT n sl kd I0 L0 Rf g L T x 0 (T.x)) := by
  have hF := hQ.M.F; have hc7 := hO.c
  intro f B
  refine ez_meth pn_X.2.2.2.2.2.2.2.2.2.2.2 (Nat.le_of_ble_eq_true rfl) ?_
  show ez_P _ _ _ _ _ _ 0 [(0, .ref 112), (1, .int 109), (2, .int (nI b0)), (3, .int t)] [] (n, sl, kd, I, L, Rf) _
  refine ez_iload_n (i := 1) dX11_act_0 rfl rfl ?_
  refine ez_lookup (off := 85) (tgt := 86) dX11_act_1 (by decide) (by decide) (by decide) ?_
  refine ez_aload_n (i := 0) dX11_act_86 rfl rfl ?_
  refine ez_iload_n (i := 2) dX11_act_87 rfl rfl ?_
  refine ez_iload_n (i := 3) dX11_act_88 rfl rfl ?_
  refine ez_callV (M1 := mX11_refusesMove) (rest := []) dX11_act_89 mlX11_259 mvX11_refusesMove rfl (hF.lt (by decide)) (hF.kc (by decide) rfl) (Nat.le_of_ble_eq_true rfl) rfl (y_X11_refusesMove_nx (d + 347) hQ.M hO hb ht) eb_rok ?_
  rintro _ _ ⟨rfl, rfl⟩
  show ez_P _ _ _ _ _ _ 92 [(0, .ref 112), (1, .int 109), (2, .int (nI b0)), (3, .int t)] (.int ((-1)) :: []) _ _
  refine ez_if_ge (tgt := 97) dX11_act_92 (by decide) (fun c1 => absurd c1 (by decide)) (fun c1 => ?_)
  refine ez_iconst (v := 0) dX11_act_95 (by decide) ?_
  refine ez_iret dX11_act_96 rfl (by decide) ?_
  exact ⟨rfl, _, _, rfl, hQ⟩
theorem y_act_move_eq {n : Nat} {sl : Nat × Nat} {kd : Nat → Nat × Nat} {I : Nat → Nat → Int32} {L : Nat → Nat → Int64} {Rf : Nat → Nat → Option Nat} (d : Nat) {T : zT} {H : Nat} {I0 g : Nat → Nat → Int32} {L0 : Nat → Nat → Int64} {x : Nat → Int32} {o : Int32} (hQ : zQ n kd I0 L0 Rf g I L T x o) (hO : zOk H T) (hH : H ≤ 1000000000) {b0 : Nat} (hb : b0 < T.c) {t : Int32} (ht : (-5) ≤ t ∧ t ≤ 5) (he : T.x (14 + b0) = t)  : zq mX11_act (d + 350) [.ref 112, .int 109, .int (nI b0), .int t] (n, sl, kd, I, L, Rf) (zpT n sl kd I0 L0 Rf g L T x 0 (T.x)) := by
  have hF := hQ.M.F; have hc7 := hO.c
  intro f B
  refine ez_meth pn_X.2.2.2.2.2.2.2.2.2.2.2 (Nat.le_of_ble_eq_true rfl) ?_
  show ez_P _ _ _ _ _ _ 0 [(0, .ref 112), (1, .int 109), (2, .int (nI b0)), (3, .int t)] [] (n, sl, kd, I, L, Rf) _
  refine ez_iload_n (i := 1) dX11_act_0 rfl rfl ?_
  refine ez_lookup (off := 85) (tgt := 86) dX11_act_1 (by decide) (by decide) (by decide) ?_
  refine ez_aload_n (i := 0) dX11_act_86 rfl rfl ?_
  refine ez_iload_n (i := 2) dX11_act_87 rfl rfl ?_
  refine ez_iload_n (i := 3) dX11_act_88 rfl rfl ?_
  refine ez_callV (M1 := mX11_refusesMove) (rest := []) dX11_act_89 mlX11_259 mvX11_refusesMove rfl (hF.lt (by decide)) (hF.kc (by decide) rfl) (Nat.le_of_ble_eq_true rfl) rfl (y_X11_refusesMove_eq (d + 347) hQ.M hO hb ht he) eb_rok ?_
  rintro _ _ ⟨rfl, rfl⟩
  show ez_P _ _ _ _ _ _ 92 [(0, .ref 112), (1, .int 109), (2, .int (nI b0)), (3, .int t)] (.int ((-2)) :: []) _ _
  refine ez_if_ge (tgt := 97) dX11_act_92 (by decide) (fun c1 => absurd c1 (by decide)) (fun c1 => ?_)
  refine ez_iconst (v := 0) dX11_act_95 (by decide) ?_
  refine ez_iret dX11_act_96 rfl (by decide) ?_
  exact ⟨rfl, _, _, rfl, hQ⟩
theorem y_act_move_ok {n : Nat} {sl : Nat × Nat} {kd : Nat → Nat × Nat} {I : Nat → Nat → Int32} {L : Nat → Nat → Int64} {Rf : Nat → Nat → Option Nat} (d : Nat) {T : zT} {H : Nat} {I0 g : Nat → Nat → Int32} {L0 : Nat → Nat → Int64} {x : Nat → Int32} {o : Int32} (hQ : zQ n kd I0 L0 Rf g I L T x o) (hO : zOk H T) (hH : H ≤ 1000000000) {b0 : Nat} (hb : b0 < T.c) {t : Int32} (ht : (-5) ≤ t ∧ t ≤ 5) (he : T.x (14 + b0) ≠ t)  : zq mX11_act (d + 350) [.ref 112, .int 109, .int (nI b0), .int t] (n, sl, kd, I, L, Rf) (zpT n sl kd I0 L0 Rf g L T x 1 (zup T.x (14 + b0) t)) := by
  have hF := hQ.M.F; have hc7 := hO.c
  intro f B
  refine ez_meth pn_X.2.2.2.2.2.2.2.2.2.2.2 (Nat.le_of_ble_eq_true rfl) ?_
  show ez_P _ _ _ _ _ _ 0 [(0, .ref 112), (1, .int 109), (2, .int (nI b0)), (3, .int t)] [] (n, sl, kd, I, L, Rf) _
  refine ez_iload_n (i := 1) dX11_act_0 rfl rfl ?_
  refine ez_lookup (off := 85) (tgt := 86) dX11_act_1 (by decide) (by decide) (by decide) ?_
  refine ez_aload_n (i := 0) dX11_act_86 rfl rfl ?_
  refine ez_iload_n (i := 2) dX11_act_87 rfl rfl ?_
  refine ez_iload_n (i := 3) dX11_act_88 rfl rfl ?_
  refine ez_callV (M1 := mX11_refusesMove) (rest := []) dX11_act_89 mlX11_259 mvX11_refusesMove rfl (hF.lt (by decide)) (hF.kc (by decide) rfl) (Nat.le_of_ble_eq_true rfl) rfl (y_X11_refusesMove_ok (d + 347) hQ.M hO hb ht he) eb_rok ?_
  rintro _ _ ⟨rfl, rfl⟩
  show ez_P _ _ _ _ _ _ 92 [(0, .ref 112), (1, .int 109), (2, .int (nI b0)), (3, .int t)] (.int 0 :: []) _ _
  refine ez_if_ge (tgt := 97) dX11_act_92 (by decide) (fun c1 => ?_) (fun c1 => absurd (by decide) c1)
  refine ez_aload_n (i := 0) dX11_act_97 rfl rfl ?_
  refine ez_getR dX11_act_98 flX11_9 (hF.lt (by decide)) (hF.kc (by decide) rfl) (hF.pt 107 rfl) ?_
  refine ez_bipush (v := 14) dX11_act_101 (by decide) ?_
  refine ez_iload_n (i := 2) dX11_act_103 rfl rfl ?_
  refine ez_iadd dX11_act_104 ?_
  refine ez_topE (y := nI (14 + b0)) (nI_add _ _) ?_
  refine ez_iload_n (i := 3) dX11_act_105 rfl rfl ?_
  refine ez_isN (k := (14 + b0)) dX11_act_106 (hF.lt (by decide)) (hF.lx (by decide)) (hF.ka (by decide) rfl) (by omega) (by decide) ?_
  refine ez_nmI (fun I2 hI2 => ?_)
  have hQ3 : zQ n kd I0 L0 Rf g I2 L (T.w_x (zup T.x (14 + b0) t)) x o := by rw [hI2]; exact hQ.nset
  refine ez_iconst (v := 1) dX11_act_107 (by decide) ?_
  refine ez_iret dX11_act_108 rfl (by decide) ?_
  exact ⟨rfl, _, _, rfl, hQ3⟩
theorem y_act_move {n : Nat} {sl : Nat × Nat} {kd : Nat → Nat × Nat} {I : Nat → Nat → Int32} {L : Nat → Nat → Int64} {Rf : Nat → Nat → Option Nat} (d : Nat) {T : zT} {H : Nat} {I0 g : Nat → Nat → Int32} {L0 : Nat → Nat → Int64} {x : Nat → Int32} {o : Int32} (hQ : zQ n kd I0 L0 Rf g I L T x o) (hO : zOk H T) (hH : H ≤ 1000000000) (b : Int32) (t : Int32) : zq mX11_act (d + 350) [.ref 112, .int 109, .int b, .int t] (n, sl, kd, I, L, Rf) (zpT n sl kd I0 L0 Rf g L T x (zba (q_move T b t)) (q_move T b t).2) := by
  by_cases hb0 : 0 ≤ b ∧ b < nI T.c
  · obtain ⟨b0, hb, rfl⟩ := pk_of (by have := hO.c; omega) hb0.1 hb0.2
    by_cases ht : (-5) ≤ t ∧ t ≤ 5
    · by_cases he : T.x (14 + b0) = t
      · rw [show q_move T (nI b0) t = (-2, T.x) from by unfold q_move; rw [if_pos (⟨z_bin hb hO.c, ht⟩), z_btn hb hO.c, if_pos he]]
        exact y_act_move_eq d hQ hO hH hb ht he
      · have hv : ¬ (z_ab (T.x (14 + b0) - t) < 0) := by obtain ⟨q, hq, e2⟩ := z_5k ht; obtain ⟨k, hk, e⟩ := hO.x.p b0 hb; rw [e, e2]; exact (z_pp_k k hk q hq).2.1
        rw [show q_move T (nI b0) t = (z_ab (T.x (14 + b0) - t), zup T.x (14 + b0) t) from by unfold q_move; rw [if_pos (⟨z_bin hb hO.c, ht⟩), z_btn hb hO.c, if_neg he], show zba (z_ab (T.x (14 + b0) - t), zup T.x (14 + b0) t) = 1 from if_neg hv]
        exact y_act_move_ok d hQ hO hH hb ht he
    · rw [show q_move T (nI b0) t = (-1, T.x) from by unfold q_move; rw [if_neg (fun e => ht e.2)]]
      exact y_act_move_nx d hQ hO hH hb ht
  · rw [show q_move T b t = (-1, T.x) from by unfold q_move; rw [if_neg (fun e => hb0 e.1)]]
    exact y_act_move_no d hQ hO hH hb0
theorem y_act_ease_no {n : Nat} {sl : Nat × Nat} {kd : Nat → Nat × Nat} {I : Nat → Nat → Int32} {L : Nat → Nat → Int64} {Rf : Nat → Nat → Option Nat} (d : Nat) {T : zT} {H : Nat} {I0 g : Nat → Nat → Int32} {L0 : Nat → Nat → Int64} {x : Nat → Int32} {o : Int32} (hQ : zQ n kd I0 L0 Rf g I L T x o) (hO : zOk H T) (hH : H ≤ 1000000000) {b : Int32} (hb : ¬ (0 ≤ b ∧ b < nI T.c)) {u : Int32}  : zq mX11_act (d + 350) [.ref 112, .int 101, .int b, .int u] (n, sl, kd, I, L, Rf) (zpT n sl kd I0 L0 Rf g L T x 0 (T.x)) := by
  have hF := hQ.M.F; have hc7 := hO.c
  intro f B
  refine ez_meth pn_X.2.2.2.2.2.2.2.2.2.2.2 (Nat.le_of_ble_eq_true rfl) ?_
  show ez_P _ _ _ _ _ _ 0 [(0, .ref 112), (1, .int 101), (2, .int b), (3, .int u)] [] (n, sl, kd, I, L, Rf) _
  refine ez_iload_n (i := 1) dX11_act_0 rfl rfl ?_
  refine ez_lookup (off := 108) (tgt := 109) dX11_act_1 (by decide) (by decide) (by decide) ?_
  refine ez_aload_n (i := 0) dX11_act_109 rfl rfl ?_
  refine ez_iload_n (i := 2) dX11_act_110 rfl rfl ?_
  refine ez_callV (M1 := mX11_refusesEase) (rest := []) dX11_act_111 mlX11_262 mvX11_refusesEase rfl (hF.lt (by decide)) (hF.kc (by decide) rfl) (Nat.le_of_ble_eq_true rfl) rfl (y_X11_refusesEase_no (d + 347) hQ.M hO hb) eb_rok ?_
  rintro _ _ ⟨rfl, rfl⟩
  show ez_P _ _ _ _ _ _ 114 [(0, .ref 112), (1, .int 101), (2, .int b), (3, .int u)] (.int ((-1)) :: []) _ _
  refine ez_if_ge (tgt := 119) dX11_act_114 (by decide) (fun c1 => absurd c1 (by decide)) (fun c1 => ?_)
  refine ez_iconst (v := 0) dX11_act_117 (by decide) ?_
  refine ez_iret dX11_act_118 rfl (by decide) ?_
  exact ⟨rfl, _, _, rfl, hQ⟩
theorem y_act_ease_eq {n : Nat} {sl : Nat × Nat} {kd : Nat → Nat × Nat} {I : Nat → Nat → Int32} {L : Nat → Nat → Int64} {Rf : Nat → Nat → Option Nat} (d : Nat) {T : zT} {H : Nat} {I0 g : Nat → Nat → Int32} {L0 : Nat → Nat → Int64} {x : Nat → Int32} {o : Int32} (hQ : zQ n kd I0 L0 Rf g I L T x o) (hO : zOk H T) (hH : H ≤ 1000000000) {b0 : Nat} (hb : b0 < T.c) {u : Int32} (he : T.x b0 = 0)  : zq mX11_act (d + 350) [.ref 112, .int 101, .int (nI b0), .int u] (n, sl, kd, I, L, Rf) (zpT n sl kd I0 L0 Rf g L T x 0 (T.x)) := by
  have hF := hQ.M.F; have hc7 := hO.c
  intro f B
  refine ez_meth pn_X.2.2.2.2.2.2.2.2.2.2.2 (Nat.le_of_ble_eq_true rfl) ?_
  show ez_P _ _ _ _ _ _ 0 [(0, .ref 112), (1, .int 101), (2, .int (nI b0)), (3, .int u)] [] (n, sl, kd, I, L, Rf) _
  refine ez_iload_n (i := 1) dX11_act_0 rfl rfl ?_
  refine ez_lookup (off := 108) (tgt := 109) dX11_act_1 (by decide) (by decide) (by decide) ?_
  refine ez_aload_n (i := 0) dX11_act_109 rfl rfl ?_
  refine ez_iload_n (i := 2) dX11_act_110 rfl rfl ?_
  refine ez_callV (M1 := mX11_refusesEase) (rest := []) dX11_act_111 mlX11_262 mvX11_refusesEase rfl (hF.lt (by decide)) (hF.kc (by decide) rfl) (Nat.le_of_ble_eq_true rfl) rfl (y_X11_refusesEase_eq (d + 347) hQ.M hO hb he) eb_rok ?_
  rintro _ _ ⟨rfl, rfl⟩
  show ez_P _ _ _ _ _ _ 114 [(0, .ref 112), (1, .int 101), (2, .int (nI b0)), (3, .int u)] (.int ((-2)) :: []) _ _
  refine ez_if_ge (tgt := 119) dX11_act_114 (by decide) (fun c1 => absurd c1 (by decide)) (fun c1 => ?_)
  refine ez_iconst (v := 0) dX11_act_117 (by decide) ?_
  refine ez_iret dX11_act_118 rfl (by decide) ?_
  exact ⟨rfl, _, _, rfl, hQ⟩
theorem y_act_ease_ok {n : Nat} {sl : Nat × Nat} {kd : Nat → Nat × Nat} {I : Nat → Nat → Int32} {L : Nat → Nat → Int64} {Rf : Nat → Nat → Option Nat} (d : Nat) {T : zT} {H : Nat} {I0 g : Nat → Nat → Int32} {L0 : Nat → Nat → Int64} {x : Nat → Int32} {o : Int32} (hQ : zQ n kd I0 L0 Rf g I L T x o) (hO : zOk H T) (hH : H ≤ 1000000000) {b0 : Nat} (hb : b0 < T.c) {u : Int32} (he : T.x b0 ≠ 0)  : zq mX11_act (d + 350) [.ref 112, .int 101, .int (nI b0), .int u] (n, sl, kd, I, L, Rf) (zpT n sl kd I0 L0 Rf g L T x 1 (zup T.x b0 (T.x b0 - 1))) := by
  have hF := hQ.M.F; have hc7 := hO.c
  intro f B
  refine ez_meth pn_X.2.2.2.2.2.2.2.2.2.2.2 (Nat.le_of_ble_eq_true rfl) ?_
  show ez_P _ _ _ _ _ _ 0 [(0, .ref 112), (1, .int 101), (2, .int (nI b0)), (3, .int u)] [] (n, sl, kd, I, L, Rf) _
  refine ez_iload_n (i := 1) dX11_act_0 rfl rfl ?_
  refine ez_lookup (off := 108) (tgt := 109) dX11_act_1 (by decide) (by decide) (by decide) ?_
  refine ez_aload_n (i := 0) dX11_act_109 rfl rfl ?_
  refine ez_iload_n (i := 2) dX11_act_110 rfl rfl ?_
  refine ez_callV (M1 := mX11_refusesEase) (rest := []) dX11_act_111 mlX11_262 mvX11_refusesEase rfl (hF.lt (by decide)) (hF.kc (by decide) rfl) (Nat.le_of_ble_eq_true rfl) rfl (y_X11_refusesEase_ok (d + 347) hQ.M hO hb he) eb_rok ?_
  rintro _ _ ⟨rfl, rfl⟩
  show ez_P _ _ _ _ _ _ 114 [(0, .ref 112), (1, .int 101), (2, .int (nI b0)), (3, .int u)] (.int 0 :: []) _ _
  refine ez_if_ge (tgt := 119) dX11_act_114 (by decide) (fun c1 => ?_) (fun c1 => absurd (by decide) c1)
  refine ez_aload_n (i := 0) dX11_act_119 rfl rfl ?_
  refine ez_getR dX11_act_120 flX11_9 (hF.lt (by decide)) (hF.kc (by decide) rfl) (hF.pt 107 rfl) ?_
  refine ez_iload_n (i := 2) dX11_act_123 rfl rfl ?_
  refine ez_dup2 dX11_act_124 rfl rfl ?_
  refine ez_iaN (k := b0) dX11_act_125 (hF.lt (by decide)) (hF.ka (by decide) rfl) (by omega) (by decide) ?_
  refine ez_topE (y := T.x b0) (hQ.M.x _ (by omega)) ?_
  refine ez_iconst (v := 1) dX11_act_126 (by decide) ?_
  refine ez_isub dX11_act_127 ?_
  refine ez_isN (k := b0) dX11_act_128 (hF.lt (by decide)) (hF.lx (by decide)) (hF.ka (by decide) rfl) (by omega) (by decide) ?_
  refine ez_nmI (fun I2 hI2 => ?_)
  have hQ3 : zQ n kd I0 L0 Rf g I2 L (T.w_x (zup T.x b0 ((T.x b0) - 1))) x o := by rw [hI2]; exact hQ.nset
  refine ez_iconst (v := 1) dX11_act_129 (by decide) ?_
  refine ez_iret dX11_act_130 rfl (by decide) ?_
  exact ⟨rfl, _, _, rfl, hQ3⟩
theorem y_act_ease {n : Nat} {sl : Nat × Nat} {kd : Nat → Nat × Nat} {I : Nat → Nat → Int32} {L : Nat → Nat → Int64} {Rf : Nat → Nat → Option Nat} (d : Nat) {T : zT} {H : Nat} {I0 g : Nat → Nat → Int32} {L0 : Nat → Nat → Int64} {x : Nat → Int32} {o : Int32} (hQ : zQ n kd I0 L0 Rf g I L T x o) (hO : zOk H T) (hH : H ≤ 1000000000) (b : Int32) (u : Int32) : zq mX11_act (d + 350) [.ref 112, .int 101, .int b, .int u] (n, sl, kd, I, L, Rf) (zpT n sl kd I0 L0 Rf g L T x (zba (q_ease T b)) (q_ease T b).2) := by
  by_cases hb0 : 0 ≤ b ∧ b < nI T.c
  · obtain ⟨b0, hb, rfl⟩ := pk_of (by have := hO.c; omega) hb0.1 hb0.2
    by_cases he : T.x b0 = 0
    · rw [show q_ease T (nI b0) = (-2, T.x) from by unfold q_ease; rw [if_pos (z_bin hb hO.c), z_btn hb hO.c, if_pos he]]
      exact y_act_ease_eq d hQ hO hH hb he
    · have hv : ¬ (T.x b0 - 1 < 0) := by obtain ⟨k, hk, e⟩ := hO.x.g b0 hb; rw [e] at he ⊢; exact z_ez_k k hk he
      rw [show q_ease T (nI b0) = (T.x b0 - 1, zup T.x b0 (T.x b0 - 1)) from by unfold q_ease; rw [if_pos (z_bin hb hO.c), z_btn hb hO.c, if_neg he], show zba (T.x b0 - 1, zup T.x b0 (T.x b0 - 1)) = 1 from if_neg hv]
      exact y_act_ease_ok d hQ hO hH hb he
  · rw [show q_ease T b = (-1, T.x) from by unfold q_ease; rw [if_neg (fun e => hb0 e)]]
    exact y_act_ease_no d hQ hO hH hb0
theorem y_act_preach_no {n : Nat} {sl : Nat × Nat} {kd : Nat → Nat × Nat} {I : Nat → Nat → Int32} {L : Nat → Nat → Int64} {Rf : Nat → Nat → Option Nat} (d : Nat) {T : zT} {H : Nat} {I0 g : Nat → Nat → Int32} {L0 : Nat → Nat → Int64} {x : Nat → Int32} {o : Int32} (hQ : zQ n kd I0 L0 Rf g I L T x o) (hO : zOk H T) (hH : H ≤ 1000000000) {b : Int32} (hb : ¬ (0 ≤ b ∧ b < nI T.c)) {t : Int32}  : zq mX11_act (d + 350) [.ref 112, .int 112, .int b, .int t] (n, sl, kd, I, L, Rf) (zpT n sl kd I0 L0 Rf g L T x 0 (T.x)) := by
  have hF := hQ.M.F; have hc7 := hO.c
  intro f B
  refine ez_meth pn_X.2.2.2.2.2.2.2.2.2.2.2 (Nat.le_of_ble_eq_true rfl) ?_
  show ez_P _ _ _ _ _ _ 0 [(0, .ref 112), (1, .int 112), (2, .int b), (3, .int t)] [] (n, sl, kd, I, L, Rf) _
  refine ez_iload_n (i := 1) dX11_act_0 rfl rfl ?_
  refine ez_lookup (off := 130) (tgt := 131) dX11_act_1 (by decide) (by decide) (by decide) ?_
  refine ez_aload_n (i := 0) dX11_act_131 rfl rfl ?_
  refine ez_iload_n (i := 2) dX11_act_132 rfl rfl ?_
  refine ez_iload_n (i := 3) dX11_act_133 rfl rfl ?_
  refine ez_callV (M1 := mX11_refusesPreaching) (rest := []) dX11_act_134 mlX11_265 mvX11_refusesPreaching rfl (hF.lt (by decide)) (hF.kc (by decide) rfl) (Nat.le_of_ble_eq_true rfl) rfl (y_X11_refusesPreaching_no (d + 347) hQ.M hO hb) eb_rok ?_
  rintro _ _ ⟨rfl, rfl⟩
  show ez_P _ _ _ _ _ _ 137 [(0, .ref 112), (1, .int 112), (2, .int b), (3, .int t)] (.int ((-1)) :: []) _ _
  refine ez_if_ge (tgt := 142) dX11_act_137 (by decide) (fun c1 => absurd c1 (by decide)) (fun c1 => ?_)
  refine ez_iconst (v := 0) dX11_act_140 (by decide) ?_
  refine ez_iret dX11_act_141 rfl (by decide) ?_
  exact ⟨rfl, _, _, rfl, hQ⟩
theorem y_act_preach_nx {n : Nat} {sl : Nat × Nat} {kd : Nat → Nat × Nat} {I : Nat → Nat → Int32} {L : Nat → Nat → Int64} {Rf : Nat → Nat → Option Nat} (d : Nat) {T : zT} {H : Nat} {I0 g : Nat → Nat → Int32} {L0 : Nat → Nat → Int64} {x : Nat → Int32} {o : Int32} (hQ : zQ n kd I0 L0 Rf g I L T x o) (hO : zOk H T) (hH : H ≤ 1000000000) {b0 : Nat} (hb : b0 < T.c) {t : Int32} (ht : ¬ (1 ≤ t ∧ t ≤ 9))  : zq mX11_act (d + 350) [.ref 112, .int 112, .int (nI b0), .int t] (n, sl, kd, I, L, Rf) (zpT n sl kd I0 L0 Rf g L T x 0 (T.x)) := by
  have hF := hQ.M.F; have hc7 := hO.c
  intro f B
  refine ez_meth pn_X.2.2.2.2.2.2.2.2.2.2.2 (Nat.le_of_ble_eq_true rfl) ?_
  show ez_P _ _ _ _ _ _ 0 [(0, .ref 112), (1, .int 112), (2, .int (nI b0)), (3, .int t)] [] (n, sl, kd, I, L, Rf) _
  refine ez_iload_n (i := 1) dX11_act_0 rfl rfl ?_
  refine ez_lookup (off := 130) (tgt := 131) dX11_act_1 (by decide) (by decide) (by decide) ?_
  refine ez_aload_n (i := 0) dX11_act_131 rfl rfl ?_
  refine ez_iload_n (i := 2) dX11_act_132 rfl rfl ?_
  refine ez_iload_n (i := 3) dX11_act_133 rfl rfl ?_
  refine ez_callV (M1 := mX11_refusesPreaching) (rest := []) dX11_act_134 mlX11_265 mvX11_refusesPreaching rfl (hF.lt (by decide)) (hF.kc (by decide) rfl) (Nat.le_of_ble_eq_true rfl) rfl (y_X11_refusesPreaching_nx (d + 347) hQ.M hO hb ht) eb_rok ?_
  rintro _ _ ⟨rfl, rfl⟩
  show ez_P _ _ _ _ _ _ 137 [(0, .ref 112), (1, .int 112), (2, .int (nI b0)), (3, .int t)] (.int ((-1)) :: []) _ _
  refine ez_if_ge (tgt := 142) dX11_act_137 (by decide) (fun c1 => absurd c1 (by decide)) (fun c1 => ?_)
  refine ez_iconst (v := 0) dX11_act_140 (by decide) ?_
  refine ez_iret dX11_act_141 rfl (by decide) ?_
  exact ⟨rfl, _, _, rfl, hQ⟩
theorem y_act_preach_eq {n : Nat} {sl : Nat × Nat} {kd : Nat → Nat × Nat} {I : Nat → Nat → Int32} {L : Nat → Nat → Int64} {Rf : Nat → Nat → Option Nat} (d : Nat) {T : zT} {H : Nat} {I0 g : Nat → Nat → Int32} {L0 : Nat → Nat → Int64} {x : Nat → Int32} {o : Int32} (hQ : zQ n kd I0 L0 Rf g I L T x o) (hO : zOk H T) (hH : H ≤ 1000000000) {b0 : Nat} (hb : b0 < T.c) {t : Int32} (ht : 1 ≤ t ∧ t ≤ 9) (he : T.x b0 = 9)  : zq mX11_act (d + 350) [.ref 112, .int 112, .int (nI b0), .int t] (n, sl, kd, I, L, Rf) (zpT n sl kd I0 L0 Rf g L T x 0 (T.x)) := by
  have hF := hQ.M.F; have hc7 := hO.c
  intro f B
  refine ez_meth pn_X.2.2.2.2.2.2.2.2.2.2.2 (Nat.le_of_ble_eq_true rfl) ?_
  show ez_P _ _ _ _ _ _ 0 [(0, .ref 112), (1, .int 112), (2, .int (nI b0)), (3, .int t)] [] (n, sl, kd, I, L, Rf) _
  refine ez_iload_n (i := 1) dX11_act_0 rfl rfl ?_
  refine ez_lookup (off := 130) (tgt := 131) dX11_act_1 (by decide) (by decide) (by decide) ?_
  refine ez_aload_n (i := 0) dX11_act_131 rfl rfl ?_
  refine ez_iload_n (i := 2) dX11_act_132 rfl rfl ?_
  refine ez_iload_n (i := 3) dX11_act_133 rfl rfl ?_
  refine ez_callV (M1 := mX11_refusesPreaching) (rest := []) dX11_act_134 mlX11_265 mvX11_refusesPreaching rfl (hF.lt (by decide)) (hF.kc (by decide) rfl) (Nat.le_of_ble_eq_true rfl) rfl (y_X11_refusesPreaching_eq (d + 347) hQ.M hO hb ht he) eb_rok ?_
  rintro _ _ ⟨rfl, rfl⟩
  show ez_P _ _ _ _ _ _ 137 [(0, .ref 112), (1, .int 112), (2, .int (nI b0)), (3, .int t)] (.int ((-2)) :: []) _ _
  refine ez_if_ge (tgt := 142) dX11_act_137 (by decide) (fun c1 => absurd c1 (by decide)) (fun c1 => ?_)
  refine ez_iconst (v := 0) dX11_act_140 (by decide) ?_
  refine ez_iret dX11_act_141 rfl (by decide) ?_
  exact ⟨rfl, _, _, rfl, hQ⟩
theorem y_act_preach_ok {n : Nat} {sl : Nat × Nat} {kd : Nat → Nat × Nat} {I : Nat → Nat → Int32} {L : Nat → Nat → Int64} {Rf : Nat → Nat → Option Nat} (d : Nat) {T : zT} {H : Nat} {I0 g : Nat → Nat → Int32} {L0 : Nat → Nat → Int64} {x : Nat → Int32} {o : Int32} (hQ : zQ n kd I0 L0 Rf g I L T x o) (hO : zOk H T) (hH : H ≤ 1000000000) {b0 : Nat} (hb : b0 < T.c) {t : Int32} (ht : 1 ≤ t ∧ t ≤ 9) (he : T.x b0 ≠ 9)  : zq mX11_act (d + 350) [.ref 112, .int 112, .int (nI b0), .int t] (n, sl, kd, I, L, Rf) (zpT n sl kd I0 L0 Rf g L T x 1 (zup T.x b0 (z_mn 9 (T.x b0 + t)))) := by
  have hF := hQ.M.F; have hc7 := hO.c
  intro f B
  refine ez_meth pn_X.2.2.2.2.2.2.2.2.2.2.2 (Nat.le_of_ble_eq_true rfl) ?_
  show ez_P _ _ _ _ _ _ 0 [(0, .ref 112), (1, .int 112), (2, .int (nI b0)), (3, .int t)] [] (n, sl, kd, I, L, Rf) _
  refine ez_iload_n (i := 1) dX11_act_0 rfl rfl ?_
  refine ez_lookup (off := 130) (tgt := 131) dX11_act_1 (by decide) (by decide) (by decide) ?_
  refine ez_aload_n (i := 0) dX11_act_131 rfl rfl ?_
  refine ez_iload_n (i := 2) dX11_act_132 rfl rfl ?_
  refine ez_iload_n (i := 3) dX11_act_133 rfl rfl ?_
  refine ez_callV (M1 := mX11_refusesPreaching) (rest := []) dX11_act_134 mlX11_265 mvX11_refusesPreaching rfl (hF.lt (by decide)) (hF.kc (by decide) rfl) (Nat.le_of_ble_eq_true rfl) rfl (y_X11_refusesPreaching_ok (d + 347) hQ.M hO hb ht he) eb_rok ?_
  rintro _ _ ⟨rfl, rfl⟩
  show ez_P _ _ _ _ _ _ 137 [(0, .ref 112), (1, .int 112), (2, .int (nI b0)), (3, .int t)] (.int 0 :: []) _ _
  refine ez_if_ge (tgt := 142) dX11_act_137 (by decide) (fun c1 => ?_) (fun c1 => absurd (by decide) c1)
  refine ez_aload_n (i := 0) dX11_act_142 rfl rfl ?_
  refine ez_getR dX11_act_143 flX11_9 (hF.lt (by decide)) (hF.kc (by decide) rfl) (hF.pt 107 rfl) ?_
  refine ez_iload_n (i := 2) dX11_act_146 rfl rfl ?_
  refine ez_bipush (v := 9) dX11_act_147 (by decide) ?_
  refine ez_aload_n (i := 0) dX11_act_149 rfl rfl ?_
  refine ez_getR dX11_act_150 flX11_9 (hF.lt (by decide)) (hF.kc (by decide) rfl) (hF.pt 107 rfl) ?_
  refine ez_iload_n (i := 2) dX11_act_153 rfl rfl ?_
  refine ez_iaN (k := b0) dX11_act_154 (hF.lt (by decide)) (hF.ka (by decide) rfl) (by omega) (by decide) ?_
  refine ez_topE (y := T.x b0) (hQ.M.x _ (by omega)) ?_
  refine ez_iload_n (i := 3) dX11_act_155 rfl rfl ?_
  refine ez_iadd dX11_act_156 ?_
  refine ez_min dX11_act_157 xmX11_197 (Nat.le_of_ble_eq_true rfl) ?_
  refine ez_topE (y := z_mn 9 (T.x b0 + t)) rfl ?_
  refine ez_isN (k := b0) dX11_act_160 (hF.lt (by decide)) (hF.lx (by decide)) (hF.ka (by decide) rfl) (by omega) (by decide) ?_
  refine ez_nmI (fun I2 hI2 => ?_)
  have hQ3 : zQ n kd I0 L0 Rf g I2 L (T.w_x (zup T.x b0 (z_mn 9 (T.x b0 + t)))) x o := by rw [hI2]; exact hQ.nset
  refine ez_iconst (v := 1) dX11_act_161 (by decide) ?_
  refine ez_iret dX11_act_162 rfl (by decide) ?_
  exact ⟨rfl, _, _, rfl, hQ3⟩
theorem y_act_preach {n : Nat} {sl : Nat × Nat} {kd : Nat → Nat × Nat} {I : Nat → Nat → Int32} {L : Nat → Nat → Int64} {Rf : Nat → Nat → Option Nat} (d : Nat) {T : zT} {H : Nat} {I0 g : Nat → Nat → Int32} {L0 : Nat → Nat → Int64} {x : Nat → Int32} {o : Int32} (hQ : zQ n kd I0 L0 Rf g I L T x o) (hO : zOk H T) (hH : H ≤ 1000000000) (b : Int32) (t : Int32) : zq mX11_act (d + 350) [.ref 112, .int 112, .int b, .int t] (n, sl, kd, I, L, Rf) (zpT n sl kd I0 L0 Rf g L T x (zba (q_preach T b t)) (q_preach T b t).2) := by
  by_cases hb0 : 0 ≤ b ∧ b < nI T.c
  · obtain ⟨b0, hb, rfl⟩ := pk_of (by have := hO.c; omega) hb0.1 hb0.2
    by_cases ht : 1 ≤ t ∧ t ≤ 9
    · by_cases he : T.x b0 = 9
      · rw [show q_preach T (nI b0) t = (-2, T.x) from by unfold q_preach; rw [if_pos (⟨z_bin hb hO.c, ht⟩), z_btn hb hO.c, if_pos he]]
        exact y_act_preach_eq d hQ hO hH hb ht he
      · have hv : ¬ (z_mn 9 (T.x b0 + t) < 0) := by obtain ⟨k, hk, e⟩ := hO.x.g b0 hb; obtain ⟨q, _, hq, e2⟩ := z_pk1 (lo := 1) (N := 9) ht (by decide) (by decide); rw [e, e2]; exact (z_pr_k k hk q (by omega)).1
        rw [show q_preach T (nI b0) t = (z_mn 9 (T.x b0 + t), zup T.x b0 (z_mn 9 (T.x b0 + t))) from by unfold q_preach; rw [if_pos (⟨z_bin hb hO.c, ht⟩), z_btn hb hO.c, if_neg he], show zba (z_mn 9 (T.x b0 + t), zup T.x b0 (z_mn 9 (T.x b0 + t))) = 1 from if_neg hv]
        exact y_act_preach_ok d hQ hO hH hb ht he
    · rw [show q_preach T (nI b0) t = (-1, T.x) from by unfold q_preach; rw [if_neg (fun e => ht e.2)]]
      exact y_act_preach_nx d hQ hO hH hb ht
  · rw [show q_preach T b t = (-1, T.x) from by unfold q_preach; rw [if_neg (fun e => hb0 e.1)]]
    exact y_act_preach_no d hQ hO hH hb0
theorem y_act_sail_nx {n : Nat} {sl : Nat × Nat} {kd : Nat → Nat × Nat} {I : Nat → Nat → Int32} {L : Nat → Nat → Int64} {Rf : Nat → Nat → Option Nat} (d : Nat) {T : zT} {H : Nat} {I0 g : Nat → Nat → Int32} {L0 : Nat → Nat → Int64} {x : Nat → Int32} {o : Int32} (hQ : zQ n kd I0 L0 Rf g I L T x o) (hO : zOk H T) (hH : H ≤ 1000000000) {t : Int32} {u : Int32} (ht : ¬ (0 ≤ t ∧ t ≤ 9))  : zq mX11_act (d + 350) [.ref 112, .int 115, .int t, .int u] (n, sl, kd, I, L, Rf) (zpT n sl kd I0 L0 Rf g L T x 0 (T.x)) := by
  have hF := hQ.M.F; have hc7 := hO.c
  intro f B
  refine ez_meth pn_X.2.2.2.2.2.2.2.2.2.2.2 (Nat.le_of_ble_eq_true rfl) ?_
  show ez_P _ _ _ _ _ _ 0 [(0, .ref 112), (1, .int 115), (2, .int t), (3, .int u)] [] (n, sl, kd, I, L, Rf) _
  refine ez_iload_n (i := 1) dX11_act_0 rfl rfl ?_
  refine ez_lookup (off := 162) (tgt := 163) dX11_act_1 (by decide) (by decide) (by decide) ?_
  refine ez_aload_n (i := 0) dX11_act_163 rfl rfl ?_
  refine ez_iload_n (i := 2) dX11_act_164 rfl rfl ?_
  refine ez_callV (M1 := mX11_refusesSail) (rest := []) dX11_act_165 mlX11_268 mvX11_refusesSail rfl (hF.lt (by decide)) (hF.kc (by decide) rfl) (Nat.le_of_ble_eq_true rfl) rfl (y_X11_refusesSail_nx (d + 347) hQ.M hO ht) eb_rok ?_
  rintro _ _ ⟨rfl, rfl⟩
  show ez_P _ _ _ _ _ _ 168 [(0, .ref 112), (1, .int 115), (2, .int t), (3, .int u)] (.int ((-1)) :: []) _ _
  refine ez_if_ge (tgt := 173) dX11_act_168 (by decide) (fun c1 => absurd c1 (by decide)) (fun c1 => ?_)
  refine ez_iconst (v := 0) dX11_act_171 (by decide) ?_
  refine ez_iret dX11_act_172 rfl (by decide) ?_
  exact ⟨rfl, _, _, rfl, hQ⟩
theorem y_act_sail_eq {n : Nat} {sl : Nat × Nat} {kd : Nat → Nat × Nat} {I : Nat → Nat → Int32} {L : Nat → Nat → Int64} {Rf : Nat → Nat → Option Nat} (d : Nat) {T : zT} {H : Nat} {I0 g : Nat → Nat → Int32} {L0 : Nat → Nat → Int64} {x : Nat → Int32} {o : Int32} (hQ : zQ n kd I0 L0 Rf g I L T x o) (hO : zOk H T) (hH : H ≤ 1000000000) {t : Int32} {u : Int32} (ht : 0 ≤ t ∧ t ≤ 9) (he : T.x 21 = t)  : zq mX11_act (d + 350) [.ref 112, .int 115, .int t, .int u] (n, sl, kd, I, L, Rf) (zpT n sl kd I0 L0 Rf g L T x 0 (T.x)) := by
  have hF := hQ.M.F; have hc7 := hO.c
  intro f B
  refine ez_meth pn_X.2.2.2.2.2.2.2.2.2.2.2 (Nat.le_of_ble_eq_true rfl) ?_
  show ez_P _ _ _ _ _ _ 0 [(0, .ref 112), (1, .int 115), (2, .int t), (3, .int u)] [] (n, sl, kd, I, L, Rf) _
  refine ez_iload_n (i := 1) dX11_act_0 rfl rfl ?_
  refine ez_lookup (off := 162) (tgt := 163) dX11_act_1 (by decide) (by decide) (by decide) ?_
  refine ez_aload_n (i := 0) dX11_act_163 rfl rfl ?_
  refine ez_iload_n (i := 2) dX11_act_164 rfl rfl ?_
  refine ez_callV (M1 := mX11_refusesSail) (rest := []) dX11_act_165 mlX11_268 mvX11_refusesSail rfl (hF.lt (by decide)) (hF.kc (by decide) rfl) (Nat.le_of_ble_eq_true rfl) rfl (y_X11_refusesSail_eq (d + 347) hQ.M hO ht he) eb_rok ?_
  rintro _ _ ⟨rfl, rfl⟩
  show ez_P _ _ _ _ _ _ 168 [(0, .ref 112), (1, .int 115), (2, .int t), (3, .int u)] (.int ((-2)) :: []) _ _
  refine ez_if_ge (tgt := 173) dX11_act_168 (by decide) (fun c1 => absurd c1 (by decide)) (fun c1 => ?_)
  refine ez_iconst (v := 0) dX11_act_171 (by decide) ?_
  refine ez_iret dX11_act_172 rfl (by decide) ?_
  exact ⟨rfl, _, _, rfl, hQ⟩
theorem y_act_sail_ok {n : Nat} {sl : Nat × Nat} {kd : Nat → Nat × Nat} {I : Nat → Nat → Int32} {L : Nat → Nat → Int64} {Rf : Nat → Nat → Option Nat} (d : Nat) {T : zT} {H : Nat} {I0 g : Nat → Nat → Int32} {L0 : Nat → Nat → Int64} {x : Nat → Int32} {o : Int32} (hQ : zQ n kd I0 L0 Rf g I L T x o) (hO : zOk H T) (hH : H ≤ 1000000000) {t : Int32} {u : Int32} (ht : 0 ≤ t ∧ t ≤ 9) (he : T.x 21 ≠ t)  : zq mX11_act (d + 350) [.ref 112, .int 115, .int t, .int u] (n, sl, kd, I, L, Rf) (zpT n sl kd I0 L0 Rf g L T x 1 (zup T.x 21 t)) := by
  have hF := hQ.M.F; have hc7 := hO.c
  intro f B
  refine ez_meth pn_X.2.2.2.2.2.2.2.2.2.2.2 (Nat.le_of_ble_eq_true rfl) ?_
  show ez_P _ _ _ _ _ _ 0 [(0, .ref 112), (1, .int 115), (2, .int t), (3, .int u)] [] (n, sl, kd, I, L, Rf) _
  refine ez_iload_n (i := 1) dX11_act_0 rfl rfl ?_
  refine ez_lookup (off := 162) (tgt := 163) dX11_act_1 (by decide) (by decide) (by decide) ?_
  refine ez_aload_n (i := 0) dX11_act_163 rfl rfl ?_
  refine ez_iload_n (i := 2) dX11_act_164 rfl rfl ?_
  refine ez_callV (M1 := mX11_refusesSail) (rest := []) dX11_act_165 mlX11_268 mvX11_refusesSail rfl (hF.lt (by decide)) (hF.kc (by decide) rfl) (Nat.le_of_ble_eq_true rfl) rfl (y_X11_refusesSail_ok (d + 347) hQ.M hO ht he) eb_rok ?_
  rintro _ _ ⟨rfl, rfl⟩
  show ez_P _ _ _ _ _ _ 168 [(0, .ref 112), (1, .int 115), (2, .int t), (3, .int u)] (.int 0 :: []) _ _
  refine ez_if_ge (tgt := 173) dX11_act_168 (by decide) (fun c1 => ?_) (fun c1 => absurd (by decide) c1)
  refine ez_aload_n (i := 0) dX11_act_173 rfl rfl ?_
  refine ez_getR dX11_act_174 flX11_9 (hF.lt (by decide)) (hF.kc (by decide) rfl) (hF.pt 107 rfl) ?_
  refine ez_bipush (v := 21) dX11_act_177 (by decide) ?_
  refine ez_iload_n (i := 2) dX11_act_179 rfl rfl ?_
  refine ez_isN (k := 21) dX11_act_180 (hF.lt (by decide)) (hF.lx (by decide)) (hF.ka (by decide) rfl) (by omega) (by decide) ?_
  refine ez_nmI (fun I2 hI2 => ?_)
  have hQ3 : zQ n kd I0 L0 Rf g I2 L (T.w_x (zup T.x 21 t)) x o := by rw [hI2]; exact hQ.nset
  refine ez_iconst (v := 1) dX11_act_181 (by decide) ?_
  refine ez_iret dX11_act_182 rfl (by decide) ?_
  exact ⟨rfl, _, _, rfl, hQ3⟩
theorem y_act_sail {n : Nat} {sl : Nat × Nat} {kd : Nat → Nat × Nat} {I : Nat → Nat → Int32} {L : Nat → Nat → Int64} {Rf : Nat → Nat → Option Nat} (d : Nat) {T : zT} {H : Nat} {I0 g : Nat → Nat → Int32} {L0 : Nat → Nat → Int64} {x : Nat → Int32} {o : Int32} (hQ : zQ n kd I0 L0 Rf g I L T x o) (hO : zOk H T) (hH : H ≤ 1000000000) (t : Int32) (u : Int32) : zq mX11_act (d + 350) [.ref 112, .int 115, .int t, .int u] (n, sl, kd, I, L, Rf) (zpT n sl kd I0 L0 Rf g L T x (zba (q_sail T t)) (q_sail T t).2) := by
  by_cases ht : 0 ≤ t ∧ t ≤ 9
  · by_cases he : T.x 21 = t
    · rw [show q_sail T t = (-2, T.x) from by unfold q_sail; rw [if_pos (ht), if_pos he]]
      exact y_act_sail_eq d hQ hO hH ht he
    · have hv : ¬ (10 + T.x 21 < 0) := by obtain ⟨k, hk, e⟩ := hO.x.s; rw [e]; exact z_10_k k (by omega)
      rw [show q_sail T t = (10 + T.x 21, zup T.x 21 t) from by unfold q_sail; rw [if_pos (ht), if_neg he], show zba (10 + T.x 21, zup T.x 21 t) = 1 from if_neg hv]
      exact y_act_sail_ok d hQ hO hH ht he
  · rw [show q_sail T t = (-1, T.x) from by unfold q_sail; rw [if_neg (fun e => ht e)]]
    exact y_act_sail_nx d hQ hO hH ht
theorem y_X11_act {n : Nat} {sl : Nat × Nat} {kd : Nat → Nat × Nat} {I : Nat → Nat → Int32} {L : Nat → Nat → Int64} {Rf : Nat → Nat → Option Nat} (d : Nat) {T : zT} {H : Nat} {I0 g : Nat → Nat → Int32} {L0 : Nat → Nat → Int64} {x : Nat → Int32} {o : Int32} (hQ : zQ n kd I0 L0 Rf g I L T x o) (hO : zOk H T) (hH : H ≤ 1000000000) {ch b t : Int32} (hch : ¬ z_fa ch = 4) (hb : ∃ v, v < 10 ∧ b = nI v) : zq mX11_act (d + 350) [.ref 112, .int ch, .int b, .int t] (n, sl, kd, I, L, Rf) (zpT n sl kd I0 L0 Rf g L T x (zba (q_act T ch b t)) (q_act T ch b t).2) := by
  unfold q_act
  by_cases h1 : ch = 110
  · subst h1; rw [if_pos rfl]; obtain ⟨v, hv, rfl⟩ := hb; rw [nI_clamp (by omega)]; exact y_act_n d hQ hO hH hv
  rw [if_neg h1]
  by_cases h2 : ch = 116
  · subst h2; rw [if_pos rfl]; exact y_act_tell d hQ hO hH b t
  rw [if_neg h2]
  by_cases h3 : ch = 109
  · subst h3; rw [if_pos rfl]; exact y_act_move d hQ hO hH b t
  rw [if_neg h3]
  by_cases h4 : ch = 101
  · subst h4; rw [if_pos rfl]; exact y_act_ease d hQ hO hH b t
  rw [if_neg h4]
  by_cases h5 : ch = 112
  · subst h5; rw [if_pos rfl]; exact y_act_preach d hQ hO hH b t
  rw [if_neg h5]
  by_cases h6 : ch = 115
  · subst h6; exact y_act_sail d hQ hO hH b t
  · exact absurd (z_fa_4 h1 h2 h3 h4 h5 h6) hch
theorem q_act_xr {T : zT} {H : Nat} (hO : zOk H T) {ch b t : Int32} (hb : ∃ v, v < 10 ∧ b = nI v) : zxr T.c (H + 9) (q_act T ch b t).2 := by
  have hle : ∀ {y : Nat → Int32}, zxr T.c H y → zxr T.c (H + 9) y := fun h => ⟨h.g, h.t, h.p, h.s, h.l, h.lg, h.ov, by obtain ⟨k, hk, e⟩ := h.h; exact ⟨k, by omega, e⟩⟩
  unfold q_act
  by_cases h1 : ch = 110
  · rw [if_pos h1]; obtain ⟨v, hv, rfl⟩ := hb; rw [nI_clamp (by omega)]
    have h := zhk_xr hO.x hO.wm.1 hO.wd hO.c v
    exact ⟨h.g, h.t, h.p, h.s, h.l, h.lg, h.ov, by obtain ⟨k, hk, e⟩ := h.h; exact ⟨k, by omega, e⟩⟩
  rw [if_neg h1]
  split
  · exact hle (q_tell_xr hO b t)
  split
  · exact hle (q_move_xr hO b t)
  split
  · exact hle (q_ease_xr hO b)
  split
  · exact hle (q_preach_xr hO b t)
  exact hle (q_sail_xr hO b)
