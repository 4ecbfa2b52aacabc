/-! the reference: tells, moves, eases, preaches, sails -/
def s_tells (T : zT) (b t : Int32) : Int32 × zT := if (0 ≤ b ∧ b < nI T.c) ∧ (0 ≤ t ∧ t ≤ 5) then (if T.x (7 + b.toNatClampNeg) = t then (-2, T) else (10 + T.x (7 + b.toNatClampNeg), zdo T (zup T.x (7 + b.toNatClampNeg) t))) else (-1, T)
def s_moves (T : zT) (b t : Int32) : Int32 × zT := if (0 ≤ b ∧ b < nI T.c) ∧ (-5 ≤ t ∧ t ≤ 5) then (if T.x (14 + b.toNatClampNeg) = t then (-2, T) else (z_ab (T.x (14 + b.toNatClampNeg) - t), zdo T (zup T.x (14 + b.toNatClampNeg) t))) else (-1, T)
def s_eases (T : zT) (b : Int32) : Int32 × zT := if (0 ≤ b ∧ b < nI T.c) then (if T.x b.toNatClampNeg = 0 then (-2, T) else (T.x b.toNatClampNeg - 1, zdo T (zup T.x b.toNatClampNeg (T.x b.toNatClampNeg - 1)))) else (-1, T)
def s_preaches (T : zT) (b t : Int32) : Int32 × zT := if (0 ≤ b ∧ b < nI T.c) ∧ (1 ≤ t ∧ t ≤ 9) then (if T.x b.toNatClampNeg = 9 then (-2, T) else (z_mn 9 (T.x b.toNatClampNeg + t), zdo T (zup T.x b.toNatClampNeg (z_mn 9 (T.x b.toNatClampNeg + t))))) else (-1, T)
def s_sails (T : zT) (t : Int32) : Int32 × zT := if (0 ≤ t ∧ t ≤ 9) then (if T.x 21 = t then (-2, T) else (10 + T.x 21, zdo T (zup T.x 21 t))) else (-1, T)
theorem z_btn {b0 c : Nat} (h : b0 < c) (hc : c ≤ 7) : (nI b0).toNatClampNeg = b0 := nI_clamp (by omega)
theorem z_bin {b0 c : Nat} (h : b0 < c) (hc : c ≤ 7) : 0 ≤ nI b0 ∧ nI b0 < nI c := ⟨nI_pos' (by omega), nI_lt h (by omega)⟩
theorem y_X11_refusesTelling_no {n : Nat} {sl : Nat × Nat} {kd : Nat → Nat × Nat} {I : Nat → Nat → Int32} {L : Nat → Nat → Int64} {Rf : Nat → Nat → Option Nat} (d : Nat) {T : zT} {H : Nat} (hM : zM n kd I L Rf T) (hO : zOk H T) {b : Int32} (hb : ¬ (0 ≤ b ∧ b < nI T.c)) {t : Int32}  : zq mX11_refusesTelling (d + 2) [.ref 112, .int b, .int t] (n, sl, kd, I, L, Rf) (eb_r (-1) (n, sl, kd, I, L, Rf)) := by
  intro f B
  refine ez_meth pn_X.2.2.2.2.2.2.2.2.2.2.2 (Nat.le_of_ble_eq_true rfl) ?_
  have hF := hM.F
  have hc7 := hO.c
  show ez_P _ _ _ _ _ _ 0 [(0, .ref 112), (1, .int b), (2, .int t)] [] (n, sl, kd, I, L, Rf) _
  refine ez_aload_n (i := 0) dX11_refusesTelling_0 rfl rfl ?_
  refine ez_iload_n (i := 1) dX11_refusesTelling_1 rfl rfl ?_
  refine ez_callV (M1 := mX11_isOne) (rest := []) dX11_refusesTelling_2 mlX11_221 mvX11_isOne rfl (hF.lt (by decide)) (hF.kc (by decide) rfl) (Nat.le_of_ble_eq_true rfl) rfl (zq_b0 hb (y_X11_isOne d hF hM.c hO.c b)) eb_rok ?_
  rintro _ _ ⟨rfl, rfl⟩
  show ez_P _ _ _ _ _ _ 5 [(0, .ref 112), (1, .int b), (2, .int t)] (.int 0 :: []) _ _
  refine ez_if_eq (tgt := 17) dX11_refusesTelling_5 (by decide) (fun c1 => ?_) (fun c1 => absurd (by decide) c1)
  refine ez_iconst (v := (-1)) dX11_refusesTelling_17 (by decide) ?_
  refine ez_iret dX11_refusesTelling_18 rfl rfl ?_
  exact ⟨rfl, rfl⟩
theorem y_X11_tells_no {n : Nat} {sl : Nat × Nat} {kd : Nat → Nat × Nat} {I : Nat → Nat → Int32} {L : Nat → Nat → Int64} {Rf : Nat → Nat → Option Nat} (d : Nat) {T : zT} {H : Nat} (hM : zM n kd I L Rf T) (hO : zOk H T) {b : Int32} (hb : ¬ (0 ≤ b ∧ b < nI T.c)) {t : Int32}  : zq mX11_tells (d + 20) [.ref 112, .int b, .int t] (n, sl, kd, I, L, Rf) (zpM n sl kd I L Rf (some (.int (s_tells T b t).1)) (s_tells T b t).2) := by
  intro f B
  refine ez_meth pn_X.2.2.2.2.2.2.2.2.2.2.2 (Nat.le_of_ble_eq_true rfl) ?_
  have hF := hM.F
  have hc7 := hO.c
  have hsp : s_tells T b t = (-1, T) := (by unfold s_tells; rw [if_neg (fun e => hb e.1)])
  rw [hsp]
  show ez_P _ _ _ _ _ _ 0 [(0, .ref 112), (1, .int b), (2, .int t)] [] (n, sl, kd, I, L, Rf) _
  refine ez_aload_n (i := 0) dX11_tells_0 rfl rfl ?_
  refine ez_iconst (v := 0) dX11_tells_1 (by decide) ?_
  refine ez_pI dX11_tells_2 plX11_89 (hF.lt (by decide)) (hF.lx (by decide)) (hF.kc (by decide) rfl) rfl rfl ?_
  refine ez_nmI (fun I1 hI1 => ?_)
  have hM1 : zM n kd I1 L Rf T := by rw [hI1]; exact hM.f9
  refine ez_aload_n (i := 0) dX11_tells_5 rfl rfl ?_
  refine ez_iload_n (i := 1) dX11_tells_6 rfl rfl ?_
  refine ez_iload_n (i := 2) dX11_tells_7 rfl rfl ?_
  refine ez_callV (M1 := mX11_refusesTelling) (rest := []) dX11_tells_8 mlX11_256 mvX11_refusesTelling rfl (hF.lt (by decide)) (hF.kc (by decide) rfl) (Nat.le_of_ble_eq_true rfl) rfl (y_X11_refusesTelling_no (d + 17) hM1 hO hb) eb_rok ?_
  rintro _ _ ⟨rfl, rfl⟩
  show ez_P _ _ _ _ _ _ 11 [(0, .ref 112), (1, .int b), (2, .int t)] (.int ((-1)) :: []) _ _
  refine ez_istore_n (l' := [(3, .int ((-1))), (0, .ref 112), (1, .int b), (2, .int t)]) dX11_tells_11 rfl (by decide) rfl ?_
  refine ez_iload_n (i := 3) dX11_tells_12 rfl rfl ?_
  refine ez_if_ge (tgt := 18) dX11_tells_13 (by decide) (fun c2 => absurd c2 (by decide)) (fun c2 => ?_)
  refine ez_iload_n (i := 3) dX11_tells_16 rfl rfl ?_
  refine ez_iret dX11_tells_17 rfl rfl ?_
  have hJ : ∀ c, c ≠ 112 → I1 c = I c := fun c g112 => by rw [hI1, z_set_ne (by omega)]
  have hJf : ∀ k, k ≠ 9 → I1 112 k = I 112 k := fun k g9 => by rw [hI1, z_set_nk (by omega)]
  exact ⟨rfl, _, _, _, rfl, ⟨hM.F, hM.ru, (by rw [(hJf 18 (by decide)), (hJ 119 (by decide))]; exact hM.rv), ⟨(hJf 6 (by decide)).trans hM.tx.1, fun k hk => by rw [(hJ 116 (by decide))]; exact hM.tx.2 k hk⟩, ⟨(hJf 8 (by decide)).trans hM.rw.1, hM.rw.2⟩, (by rw [(hJ 114 (by decide))]; exact hM.pr), ((hJf 4 (by decide)).trans hM.wm), (by rw [(hJ 115 (by decide))]; exact hM.wd), ((hJf 1 (by decide)).trans hM.c), (by rw [(hJ 113 (by decide))]; exact hM.x), (by rw [(hJf 22 (by decide)), (hJ 122 (by decide))]; exact hM.un), (by rw [(hJf 38 (by decide)), (hJ 134 (by decide)), (hJ 135 (by decide)), (hJ 136 (by decide))]; exact hM.kp), (by rw [(hJf 30 (by decide)), (hJ 126 (by decide)), (hJ 127 (by decide)), (hJ 128 (by decide))]; exact hM.sn), (by rw [(hJf 34 (by decide)), (hJ 130 (by decide)), (hJ 131 (by decide))]; exact hM.hd)⟩, (by rw [hI1, z_set_at]), fun c hc => ⟨hJ c (by omega), rfl, rfl⟩⟩
theorem y_X11_refusesTelling_nx {n : Nat} {sl : Nat × Nat} {kd : Nat → Nat × Nat} {I : Nat → Nat → Int32} {L : Nat → Nat → Int64} {Rf : Nat → Nat → Option Nat} (d : Nat) {T : zT} {H : Nat} (hM : zM n kd I L Rf T) (hO : zOk H T) {b0 : Nat} (hb : b0 < T.c) {t : Int32} (ht : ¬ (0 ≤ t ∧ t ≤ 5))  : zq mX11_refusesTelling (d + 2) [.ref 112, .int (nI b0), .int t] (n, sl, kd, I, L, Rf) (eb_r (-1) (n, sl, kd, I, L, Rf)) := by
  intro f B
  refine ez_meth pn_X.2.2.2.2.2.2.2.2.2.2.2 (Nat.le_of_ble_eq_true rfl) ?_
  have hF := hM.F
  have hc7 := hO.c
  show ez_P _ _ _ _ _ _ 0 [(0, .ref 112), (1, .int (nI b0)), (2, .int t)] [] (n, sl, kd, I, L, Rf) _
  refine ez_aload_n (i := 0) dX11_refusesTelling_0 rfl rfl ?_
  refine ez_iload_n (i := 1) dX11_refusesTelling_1 rfl rfl ?_
  refine ez_callV (M1 := mX11_isOne) (rest := []) dX11_refusesTelling_2 mlX11_221 mvX11_isOne rfl (hF.lt (by decide)) (hF.kc (by decide) rfl) (Nat.le_of_ble_eq_true rfl) rfl (zq_b1 (z_bin hb hO.c) (y_X11_isOne d hF hM.c hO.c (nI b0))) eb_rok ?_
  rintro _ _ ⟨rfl, rfl⟩
  show ez_P _ _ _ _ _ _ 5 [(0, .ref 112), (1, .int (nI b0)), (2, .int t)] (.int 1 :: []) _ _
  refine ez_if_eq (tgt := 17) dX11_refusesTelling_5 (by decide) (fun c1 => absurd c1 (by decide)) (fun c1 => ?_)
  refine ez_iload_n (i := 2) dX11_refusesTelling_8 rfl rfl ?_
  refine ez_iconst (v := 0) dX11_refusesTelling_9 (by decide) ?_
  refine ez_iconst (v := 5) dX11_refusesTelling_10 (by decide) ?_
  refine ez_callS (M1 := mX11_in) (rest := []) dX11_refusesTelling_11 mlX11_98 msX11_in rfl (Nat.le_of_ble_eq_true rfl) rfl (zq_b0 ht (zq_b (q_X11_in (d + 1) t 0 5) (n, sl, kd, I, L, Rf))) eb_rok ?_
  rintro _ _ ⟨rfl, rfl⟩
  show ez_P _ _ _ _ _ _ 14 [(0, .ref 112), (1, .int (nI b0)), (2, .int t)] (.int 0 :: []) _ _
  refine ez_if_ne (tgt := 19) dX11_refusesTelling_14 (by decide) (fun c2 => absurd c2 (by decide)) (fun c2 => ?_)
  refine ez_iconst (v := (-1)) dX11_refusesTelling_17 (by decide) ?_
  refine ez_iret dX11_refusesTelling_18 rfl rfl ?_
  exact ⟨rfl, rfl⟩
theorem y_X11_tells_nx {n : Nat} {sl : Nat × Nat} {kd : Nat → Nat × Nat} {I : Nat → Nat → Int32} {L : Nat → Nat → Int64} {Rf : Nat → Nat → Option Nat} (d : Nat) {T : zT} {H : Nat} (hM : zM n kd I L Rf T) (hO : zOk H T) {b0 : Nat} (hb : b0 < T.c) {t : Int32} (ht : ¬ (0 ≤ t ∧ t ≤ 5))  : zq mX11_tells (d + 20) [.ref 112, .int (nI b0), .int t] (n, sl, kd, I, L, Rf) (zpM n sl kd I L Rf (some (.int (s_tells T (nI b0) t).1)) (s_tells T (nI b0) t).2) := by
  intro f B
  refine ez_meth pn_X.2.2.2.2.2.2.2.2.2.2.2 (Nat.le_of_ble_eq_true rfl) ?_
  have hF := hM.F
  have hc7 := hO.c
  have hsp : s_tells T (nI b0) t = (-1, T) := (by unfold s_tells; rw [if_neg (fun e => ht e.2)])
  rw [hsp]
  show ez_P _ _ _ _ _ _ 0 [(0, .ref 112), (1, .int (nI b0)), (2, .int t)] [] (n, sl, kd, I, L, Rf) _
  refine ez_aload_n (i := 0) dX11_tells_0 rfl rfl ?_
  refine ez_iconst (v := 0) dX11_tells_1 (by decide) ?_
  refine ez_pI dX11_tells_2 plX11_89 (hF.lt (by decide)) (hF.lx (by decide)) (hF.kc (by decide) rfl) rfl rfl ?_
  refine ez_nmI (fun I1 hI1 => ?_)
  have hM1 : zM n kd I1 L Rf T := by rw [hI1]; exact hM.f9
  refine ez_aload_n (i := 0) dX11_tells_5 rfl rfl ?_
  refine ez_iload_n (i := 1) dX11_tells_6 rfl rfl ?_
  refine ez_iload_n (i := 2) dX11_tells_7 rfl rfl ?_
  refine ez_callV (M1 := mX11_refusesTelling) (rest := []) dX11_tells_8 mlX11_256 mvX11_refusesTelling rfl (hF.lt (by decide)) (hF.kc (by decide) rfl) (Nat.le_of_ble_eq_true rfl) rfl (y_X11_refusesTelling_nx (d + 17) hM1 hO hb ht) eb_rok ?_
  rintro _ _ ⟨rfl, rfl⟩
  show ez_P _ _ _ _ _ _ 11 [(0, .ref 112), (1, .int (nI b0)), (2, .int t)] (.int ((-1)) :: []) _ _
  refine ez_istore_n (l' := [(3, .int ((-1))), (0, .ref 112), (1, .int (nI b0)), (2, .int t)]) dX11_tells_11 rfl (by decide) rfl ?_
  refine ez_iload_n (i := 3) dX11_tells_12 rfl rfl ?_
  refine ez_if_ge (tgt := 18) dX11_tells_13 (by decide) (fun c2 => absurd c2 (by decide)) (fun c2 => ?_)
  refine ez_iload_n (i := 3) dX11_tells_16 rfl rfl ?_
  refine ez_iret dX11_tells_17 rfl rfl ?_
  have hJ : ∀ c, c ≠ 112 → I1 c = I c := fun c g112 => by rw [hI1, z_set_ne (by omega)]
  have hJf : ∀ k, k ≠ 9 → I1 112 k = I 112 k := fun k g9 => by rw [hI1, z_set_nk (by omega)]
  exact ⟨rfl, _, _, _, rfl, ⟨hM.F, hM.ru, (by rw [(hJf 18 (by decide)), (hJ 119 (by decide))]; exact hM.rv), ⟨(hJf 6 (by decide)).trans hM.tx.1, fun k hk => by rw [(hJ 116 (by decide))]; exact hM.tx.2 k hk⟩, ⟨(hJf 8 (by decide)).trans hM.rw.1, hM.rw.2⟩, (by rw [(hJ 114 (by decide))]; exact hM.pr), ((hJf 4 (by decide)).trans hM.wm), (by rw [(hJ 115 (by decide))]; exact hM.wd), ((hJf 1 (by decide)).trans hM.c), (by rw [(hJ 113 (by decide))]; exact hM.x), (by rw [(hJf 22 (by decide)), (hJ 122 (by decide))]; exact hM.un), (by rw [(hJf 38 (by decide)), (hJ 134 (by decide)), (hJ 135 (by decide)), (hJ 136 (by decide))]; exact hM.kp), (by rw [(hJf 30 (by decide)), (hJ 126 (by decide)), (hJ 127 (by decide)), (hJ 128 (by decide))]; exact hM.sn), (by rw [(hJf 34 (by decide)), (hJ 130 (by decide)), (hJ 131 (by decide))]; exact hM.hd)⟩, (by rw [hI1, z_set_at]), fun c hc => ⟨hJ c (by omega), rfl, rfl⟩⟩
theorem y_X11_refusesTelling_eq {n : Nat} {sl : Nat × Nat} {kd : Nat → Nat × Nat} {I : Nat → Nat → Int32} {L : Nat → Nat → Int64} {Rf : Nat → Nat → Option Nat} (d : Nat) {T : zT} {H : Nat} (hM : zM n kd I L Rf T) (hO : zOk H T) {b0 : Nat} (hb : b0 < T.c) {t : Int32} (ht : 0 ≤ t ∧ t ≤ 5) (he : T.x (7 + b0) = t)  : zq mX11_refusesTelling (d + 2) [.ref 112, .int (nI b0), .int t] (n, sl, kd, I, L, Rf) (eb_r (-2) (n, sl, kd, I, L, Rf)) := by
  intro f B
  refine ez_meth pn_X.2.2.2.2.2.2.2.2.2.2.2 (Nat.le_of_ble_eq_true rfl) ?_
  have hF := hM.F
  have hc7 := hO.c
  show ez_P _ _ _ _ _ _ 0 [(0, .ref 112), (1, .int (nI b0)), (2, .int t)] [] (n, sl, kd, I, L, Rf) _
  refine ez_aload_n (i := 0) dX11_refusesTelling_0 rfl rfl ?_
  refine ez_iload_n (i := 1) dX11_refusesTelling_1 rfl rfl ?_
  refine ez_callV (M1 := mX11_isOne) (rest := []) dX11_refusesTelling_2 mlX11_221 mvX11_isOne rfl (hF.lt (by decide)) (hF.kc (by decide) rfl) (Nat.le_of_ble_eq_true rfl) rfl (zq_b1 (z_bin hb hO.c) (y_X11_isOne d hF hM.c hO.c (nI b0))) eb_rok ?_
  rintro _ _ ⟨rfl, rfl⟩
  show ez_P _ _ _ _ _ _ 5 [(0, .ref 112), (1, .int (nI b0)), (2, .int t)] (.int 1 :: []) _ _
  refine ez_if_eq (tgt := 17) dX11_refusesTelling_5 (by decide) (fun c1 => absurd c1 (by decide)) (fun c1 => ?_)
  refine ez_iload_n (i := 2) dX11_refusesTelling_8 rfl rfl ?_
  refine ez_iconst (v := 0) dX11_refusesTelling_9 (by decide) ?_
  refine ez_iconst (v := 5) dX11_refusesTelling_10 (by decide) ?_
  refine ez_callS (M1 := mX11_in) (rest := []) dX11_refusesTelling_11 mlX11_98 msX11_in rfl (Nat.le_of_ble_eq_true rfl) rfl (zq_b1 ht (zq_b (q_X11_in (d + 1) t 0 5) (n, sl, kd, I, L, Rf))) eb_rok ?_
  rintro _ _ ⟨rfl, rfl⟩
  show ez_P _ _ _ _ _ _ 14 [(0, .ref 112), (1, .int (nI b0)), (2, .int t)] (.int 1 :: []) _ _
  refine ez_if_ne (tgt := 19) dX11_refusesTelling_14 (by decide) (fun c2 => ?_) (fun c2 => absurd (by decide) c2)
  refine ez_aload_n (i := 0) dX11_refusesTelling_19 rfl rfl ?_
  refine ez_getR dX11_refusesTelling_20 flX11_9 (hF.lt (by decide)) (hF.kc (by decide) rfl) (hF.pt 107 rfl) ?_
  refine ez_bipush (v := 7) dX11_refusesTelling_23 (by decide) ?_
  refine ez_iload_n (i := 1) dX11_refusesTelling_25 rfl rfl ?_
  refine ez_iadd dX11_refusesTelling_26 ?_
  refine ez_topE (y := nI (7 + b0)) (nI_add _ _) ?_
  refine ez_iaN (k := (7 + b0)) dX11_refusesTelling_27 (hF.lt (by decide)) (hF.ka (by decide) rfl) (by omega) (by decide) ?_
  refine ez_topE (y := T.x (7 + b0)) (hM.x (7 + b0) (by have := hO.c; omega)) ?_
  refine ez_iload_n (i := 2) dX11_refusesTelling_28 rfl rfl ?_
  refine ez_icmp_ne (tgt := 37) dX11_refusesTelling_29 (by decide) (fun c3 => absurd c3 (fun g => g he)) (fun c3 => ?_)
  refine ez_bipush (v := (-2)) dX11_refusesTelling_32 (by decide) ?_
  refine ez_goto (tgt := 38) dX11_refusesTelling_34 (by decide) ?_
  refine ez_iret dX11_refusesTelling_38 rfl rfl ?_
  exact ⟨rfl, rfl⟩
theorem y_X11_tells_eq {n : Nat} {sl : Nat × Nat} {kd : Nat → Nat × Nat} {I : Nat → Nat → Int32} {L : Nat → Nat → Int64} {Rf : Nat → Nat → Option Nat} (d : Nat) {T : zT} {H : Nat} (hM : zM n kd I L Rf T) (hO : zOk H T) {b0 : Nat} (hb : b0 < T.c) {t : Int32} (ht : 0 ≤ t ∧ t ≤ 5) (he : T.x (7 + b0) = t)  : zq mX11_tells (d + 20) [.ref 112, .int (nI b0), .int t] (n, sl, kd, I, L, Rf) (zpM n sl kd I L Rf (some (.int (s_tells T (nI b0) t).1)) (s_tells T (nI b0) t).2) := by
  intro f B
  refine ez_meth pn_X.2.2.2.2.2.2.2.2.2.2.2 (Nat.le_of_ble_eq_true rfl) ?_
  have hF := hM.F
  have hc7 := hO.c
  have hsp : s_tells T (nI b0) t = (-2, T) := (by unfold s_tells; rw [if_pos (⟨z_bin hb hO.c, ht⟩), z_btn hb hO.c, if_pos he])
  rw [hsp]
  show ez_P _ _ _ _ _ _ 0 [(0, .ref 112), (1, .int (nI b0)), (2, .int t)] [] (n, sl, kd, I, L, Rf) _
  refine ez_aload_n (i := 0) dX11_tells_0 rfl rfl ?_
  refine ez_iconst (v := 0) dX11_tells_1 (by decide) ?_
  refine ez_pI dX11_tells_2 plX11_89 (hF.lt (by decide)) (hF.lx (by decide)) (hF.kc (by decide) rfl) rfl rfl ?_
  refine ez_nmI (fun I1 hI1 => ?_)
  have hM1 : zM n kd I1 L Rf T := by rw [hI1]; exact hM.f9
  refine ez_aload_n (i := 0) dX11_tells_5 rfl rfl ?_
  refine ez_iload_n (i := 1) dX11_tells_6 rfl rfl ?_
  refine ez_iload_n (i := 2) dX11_tells_7 rfl rfl ?_
  refine ez_callV (M1 := mX11_refusesTelling) (rest := []) dX11_tells_8 mlX11_256 mvX11_refusesTelling rfl (hF.lt (by decide)) (hF.kc (by decide) rfl) (Nat.le_of_ble_eq_true rfl) rfl (y_X11_refusesTelling_eq (d + 17) hM1 hO hb ht he) eb_rok ?_
  rintro _ _ ⟨rfl, rfl⟩
  show ez_P _ _ _ _ _ _ 11 [(0, .ref 112), (1, .int (nI b0)), (2, .int t)] (.int ((-2)) :: []) _ _
  refine ez_istore_n (l' := [(3, .int ((-2))), (0, .ref 112), (1, .int (nI b0)), (2, .int t)]) dX11_tells_11 rfl (by decide) rfl ?_
  refine ez_iload_n (i := 3) dX11_tells_12 rfl rfl ?_
  refine ez_if_ge (tgt := 18) dX11_tells_13 (by decide) (fun c2 => absurd c2 (by decide)) (fun c2 => ?_)
  refine ez_iload_n (i := 3) dX11_tells_16 rfl rfl ?_
  refine ez_iret dX11_tells_17 rfl rfl ?_
  have hJ : ∀ c, c ≠ 112 → I1 c = I c := fun c g112 => by rw [hI1, z_set_ne (by omega)]
  have hJf : ∀ k, k ≠ 9 → I1 112 k = I 112 k := fun k g9 => by rw [hI1, z_set_nk (by omega)]
  exact ⟨rfl, _, _, _, rfl, ⟨hM.F, hM.ru, (by rw [(hJf 18 (by decide)), (hJ 119 (by decide))]; exact hM.rv), ⟨(hJf 6 (by decide)).trans hM.tx.1, fun k hk => by rw [(hJ 116 (by decide))]; exact hM.tx.2 k hk⟩, ⟨(hJf 8 (by decide)).trans hM.rw.1, hM.rw.2⟩, (by rw [(hJ 114 (by decide))]; exact hM.pr), ((hJf 4 (by decide)).trans hM.wm), (by rw [(hJ 115 (by decide))]; exact hM.wd), ((hJf 1 (by decide)).trans hM.c), (by rw [(hJ 113 (by decide))]; exact hM.x), (by rw [(hJf 22 (by decide)), (hJ 122 (by decide))]; exact hM.un), (by rw [(hJf 38 (by decide)), (hJ 134 (by decide)), (hJ 135 (by decide)), (hJ 136 (by decide))]; exact hM.kp), (by rw [(hJf 30 (by decide)), (hJ 126 (by decide)), (hJ 127 (by decide)), (hJ 128 (by decide))]; exact hM.sn), (by rw [(hJf 34 (by decide)), (hJ 130 (by decide)), (hJ 131 (by decide))]; exact hM.hd)⟩, (by rw [hI1, z_set_at]), fun c hc => ⟨hJ c (by omega), rfl, rfl⟩⟩
theorem y_X11_refusesTelling_ok {n : Nat} {sl : Nat × Nat} {kd : Nat → Nat × Nat} {I : Nat → Nat → Int32} {L : Nat → Nat → Int64} {Rf : Nat → Nat → Option Nat} (d : Nat) {T : zT} {H : Nat} (hM : zM n kd I L Rf T) (hO : zOk H T) {b0 : Nat} (hb : b0 < T.c) {t : Int32} (ht : 0 ≤ t ∧ t ≤ 5) (he : T.x (7 + b0) ≠ t)  : zq mX11_refusesTelling (d + 2) [.ref 112, .int (nI b0), .int t] (n, sl, kd, I, L, Rf) (eb_r 0 (n, sl, kd, I, L, Rf)) := by
  intro f B
  refine ez_meth pn_X.2.2.2.2.2.2.2.2.2.2.2 (Nat.le_of_ble_eq_true rfl) ?_
  have hF := hM.F
  have hc7 := hO.c
  show ez_P _ _ _ _ _ _ 0 [(0, .ref 112), (1, .int (nI b0)), (2, .int t)] [] (n, sl, kd, I, L, Rf) _
  refine ez_aload_n (i := 0) dX11_refusesTelling_0 rfl rfl ?_
  refine ez_iload_n (i := 1) dX11_refusesTelling_1 rfl rfl ?_
  refine ez_callV (M1 := mX11_isOne) (rest := []) dX11_refusesTelling_2 mlX11_221 mvX11_isOne rfl (hF.lt (by decide)) (hF.kc (by decide) rfl) (Nat.le_of_ble_eq_true rfl) rfl (zq_b1 (z_bin hb hO.c) (y_X11_isOne d hF hM.c hO.c (nI b0))) eb_rok ?_
  rintro _ _ ⟨rfl, rfl⟩
  show ez_P _ _ _ _ _ _ 5 [(0, .ref 112), (1, .int (nI b0)), (2, .int t)] (.int 1 :: []) _ _
  refine ez_if_eq (tgt := 17) dX11_refusesTelling_5 (by decide) (fun c1 => absurd c1 (by decide)) (fun c1 => ?_)
  refine ez_iload_n (i := 2) dX11_refusesTelling_8 rfl rfl ?_
  refine ez_iconst (v := 0) dX11_refusesTelling_9 (by decide) ?_
  refine ez_iconst (v := 5) dX11_refusesTelling_10 (by decide) ?_
  refine ez_callS (M1 := mX11_in) (rest := []) dX11_refusesTelling_11 mlX11_98 msX11_in rfl (Nat.le_of_ble_eq_true rfl) rfl (zq_b1 ht (zq_b (q_X11_in (d + 1) t 0 5) (n, sl, kd, I, L, Rf))) eb_rok ?_
  rintro _ _ ⟨rfl, rfl⟩
  show ez_P _ _ _ _ _ _ 14 [(0, .ref 112), (1, .int (nI b0)), (2, .int t)] (.int 1 :: []) _ _
  refine ez_if_ne (tgt := 19) dX11_refusesTelling_14 (by decide) (fun c2 => ?_) (fun c2 => absurd (by decide) c2)
  refine ez_aload_n (i := 0) dX11_refusesTelling_19 rfl rfl ?_
  refine ez_getR dX11_refusesTelling_20 flX11_9 (hF.lt (by decide)) (hF.kc (by decide) rfl) (hF.pt 107 rfl) ?_
  refine ez_bipush (v := 7) dX11_refusesTelling_23 (by decide) ?_
  refine ez_iload_n (i := 1) dX11_refusesTelling_25 rfl rfl ?_
  refine ez_iadd dX11_refusesTelling_26 ?_
  refine ez_topE (y := nI (7 + b0)) (nI_add _ _) ?_
  refine ez_iaN (k := (7 + b0)) dX11_refusesTelling_27 (hF.lt (by decide)) (hF.ka (by decide) rfl) (by omega) (by decide) ?_
  refine ez_topE (y := T.x (7 + b0)) (hM.x (7 + b0) (by have := hO.c; omega)) ?_
  refine ez_iload_n (i := 2) dX11_refusesTelling_28 rfl rfl ?_
  refine ez_icmp_ne (tgt := 37) dX11_refusesTelling_29 (by decide) (fun c3 => ?_) (fun c3 => absurd he c3)
  refine ez_iconst (v := 0) dX11_refusesTelling_37 (by decide) ?_
  refine ez_iret dX11_refusesTelling_38 rfl rfl ?_
  exact ⟨rfl, rfl⟩
theorem y_X11_tells_ok {n : Nat} {sl : Nat × Nat} {kd : Nat → Nat × Nat} {I : Nat → Nat → Int32} {L : Nat → Nat → Int64} {Rf : Nat → Nat → Option Nat} (d : Nat) {T : zT} {H : Nat} (hM : zM n kd I L Rf T) (hO : zOk H T) {b0 : Nat} (hb : b0 < T.c) {t : Int32} (ht : 0 ≤ t ∧ t ≤ 5) (he : T.x (7 + b0) ≠ t)  : zq mX11_tells (d + 20) [.ref 112, .int (nI b0), .int t] (n, sl, kd, I, L, Rf) (zpM n sl kd I L Rf (some (.int (s_tells T (nI b0) t).1)) (s_tells T (nI b0) t).2) := by
  intro f B
  refine ez_meth pn_X.2.2.2.2.2.2.2.2.2.2.2 (Nat.le_of_ble_eq_true rfl) ?_
  have hF := hM.F
  have hc7 := hO.c
  have hsp : s_tells T (nI b0) t = (10 + T.x (7 + b0), zdo T (zup T.x (7 + b0) t)) := (by unfold s_tells; rw [if_pos (⟨z_bin hb hO.c, ht⟩), z_btn hb hO.c, if_neg he])
  rw [hsp]
  show ez_P _ _ _ _ _ _ 0 [(0, .ref 112), (1, .int (nI b0)), (2, .int t)] [] (n, sl, kd, I, L, Rf) _
  refine ez_aload_n (i := 0) dX11_tells_0 rfl rfl ?_
  refine ez_iconst (v := 0) dX11_tells_1 (by decide) ?_
  refine ez_pI dX11_tells_2 plX11_89 (hF.lt (by decide)) (hF.lx (by decide)) (hF.kc (by decide) rfl) rfl rfl ?_
  refine ez_nmI (fun I1 hI1 => ?_)
  have hM1 : zM n kd I1 L Rf T := by rw [hI1]; exact hM.f9
  refine ez_aload_n (i := 0) dX11_tells_5 rfl rfl ?_
  refine ez_iload_n (i := 1) dX11_tells_6 rfl rfl ?_
  refine ez_iload_n (i := 2) dX11_tells_7 rfl rfl ?_
  refine ez_callV (M1 := mX11_refusesTelling) (rest := []) dX11_tells_8 mlX11_256 mvX11_refusesTelling rfl (hF.lt (by decide)) (hF.kc (by decide) rfl) (Nat.le_of_ble_eq_true rfl) rfl (y_X11_refusesTelling_ok (d + 17) hM1 hO hb ht he) eb_rok ?_
  rintro _ _ ⟨rfl, rfl⟩
  show ez_P _ _ _ _ _ _ 11 [(0, .ref 112), (1, .int (nI b0)), (2, .int t)] (.int 0 :: []) _ _
  refine ez_istore_n (l' := [(3, .int 0), (0, .ref 112), (1, .int (nI b0)), (2, .int t)]) dX11_tells_11 rfl (by decide) rfl ?_
  refine ez_iload_n (i := 3) dX11_tells_12 rfl rfl ?_
  refine ez_if_ge (tgt := 18) dX11_tells_13 (by decide) (fun c2 => ?_) (fun c2 => absurd (by decide) c2)
  refine ez_aload_n (i := 0) dX11_tells_18 rfl rfl ?_
  refine ez_aload_n (i := 0) dX11_tells_19 rfl rfl ?_
  refine ez_getR dX11_tells_20 flX11_9 (hF.lt (by decide)) (hF.kc (by decide) rfl) (hF.pt 107 rfl) ?_
  refine ez_callV (M1 := mX11_remember) (rest := []) dX11_tells_23 mlX11_246 mvX11_remember rfl (hF.lt (by decide)) (hF.kc (by decide) rfl) (Nat.le_of_ble_eq_true rfl) rfl (y_X11_remember (I := I1) (p := 113) (d + 18) hF (Or.inl rfl) (hF.ka (by decide) rfl) hM1.un.1 hO.unl) (eb_vok rfl) ?_
  rintro _ _ ⟨rfl, rfl⟩
  show ez_P _ _ _ _ _ _ 26 [(3, .int 0), (0, .ref 112), (1, .int (nI b0)), (2, .int t)] [] (n, sl, kd, z_rem I1 113 T.un.length, L, Rf) _
  refine ez_nmI (fun I3 hI3 => ?_)
  refine ez_aload_n (i := 0) dX11_tells_26 rfl rfl ?_
  refine ez_getR dX11_tells_27 flX11_9 (hF.lt (by decide)) (hF.kc (by decide) rfl) (hF.pt 107 rfl) ?_
  refine ez_bipush (v := 7) dX11_tells_30 (by decide) ?_
  refine ez_iload_n (i := 1) dX11_tells_32 rfl rfl ?_
  refine ez_iadd dX11_tells_33 ?_
  refine ez_topE (y := nI (7 + b0)) (nI_add _ _) ?_
  refine ez_iaN (k := (7 + b0)) dX11_tells_34 (hF.lt (by decide)) (hF.ka (by decide) rfl) (by omega) (by decide) ?_
  refine ez_topE (y := I 113 (7 + b0)) (by rw [hI3, z_rem_ne (by decide) (by decide), hI1, z_set_ne (by decide)]) ?_
  refine ez_topE (y := T.x (7 + b0)) (hM.x (7 + b0) (by have := hO.c; omega)) ?_
  refine ez_istore (l' := [(4, .int (T.x (7 + b0))), (3, .int 0), (0, .ref 112), (1, .int (nI b0)), (2, .int t)]) dX11_tells_35 (by decide) rfl ?_
  refine ez_aload_n (i := 0) dX11_tells_37 rfl rfl ?_
  refine ez_getR dX11_tells_38 flX11_9 (hF.lt (by decide)) (hF.kc (by decide) rfl) (hF.pt 107 rfl) ?_
  refine ez_bipush (v := 7) dX11_tells_41 (by decide) ?_
  refine ez_iload_n (i := 1) dX11_tells_43 rfl rfl ?_
  refine ez_iadd dX11_tells_44 ?_
  refine ez_topE (y := nI (7 + b0)) (nI_add _ _) ?_
  refine ez_iload_n (i := 2) dX11_tells_45 rfl rfl ?_
  refine ez_isN (k := (7 + b0)) dX11_tells_46 (hF.lt (by decide)) (hF.lx (by decide)) (hF.ka (by decide) rfl) (by omega) (by decide) ?_
  refine ez_nmI (fun I4 hI4 => ?_)
  refine ez_bipush (v := 10) dX11_tells_47 (by decide) ?_
  refine ez_iload (i := 4) dX11_tells_49 rfl ?_
  refine ez_iadd dX11_tells_51 ?_
  refine ez_iret dX11_tells_52 rfl rfl ?_
  have hJ : ∀ c, c ≠ 112 → c ≠ 113 → c ≠ 122 → I4 c = I c := fun c g112 g113 g122 => by rw [hI4, z_set_ne (by omega), hI3, z_rem_ne (by omega) (by omega), hI1, z_set_ne (by omega)]
  have hJf : ∀ k, k ≠ 9 → k ≠ 22 → I4 112 k = I 112 k := fun k g9 g22 => by rw [hI4, z_set_ne (by decide), hI3, z_rem_f (by omega), hI1, z_set_nk (by omega)]
  exact ⟨rfl, _, _, _, rfl, ⟨hM.F, hM.ru, (by rw [(hJf 18 (by decide) (by decide)), (hJ 119 (by decide) (by decide) (by decide))]; exact hM.rv), ⟨(hJf 6 (by decide) (by decide)).trans hM.tx.1, fun k hk => by rw [(hJ 116 (by decide) (by decide) (by decide))]; exact hM.tx.2 k hk⟩, ⟨(hJf 8 (by decide) (by decide)).trans hM.rw.1, hM.rw.2⟩, (by rw [(hJ 114 (by decide) (by decide) (by decide))]; exact hM.pr), ((hJf 4 (by decide) (by decide)).trans hM.wm), (by rw [(hJ 115 (by decide) (by decide) (by decide))]; exact hM.wd), ((hJf 1 (by decide) (by decide)).trans hM.c), (by rw [hI4]; refine z_upx ?_; rw [hI3, z_rem_ne (by decide) (by decide)]; exact hM1.x), (by rw [hI4, z_set_ne (by decide), z_set_ne (by decide), hI3]; exact z_rem_un (by decide) (by decide) hO.unl hM1.un hM1.x), (by rw [(hJf 38 (by decide) (by decide)), (hJ 134 (by decide) (by decide) (by decide)), (hJ 135 (by decide) (by decide) (by decide)), (hJ 136 (by decide) (by decide) (by decide))]; exact hM.kp), (by rw [(hJf 30 (by decide) (by decide)), (hJ 126 (by decide) (by decide) (by decide)), (hJ 127 (by decide) (by decide) (by decide)), (hJ 128 (by decide) (by decide) (by decide))]; exact hM.sn), (by rw [(hJf 34 (by decide) (by decide)), (hJ 130 (by decide) (by decide) (by decide)), (hJ 131 (by decide) (by decide) (by decide))]; exact hM.hd)⟩, (by rw [hI4, z_set_ne (by decide), hI3, z_rem_f (by decide), hI1, z_set_at]), fun c hc => ⟨hJ c (by omega) (by omega) (by omega), rfl, rfl⟩⟩
theorem y_X11_tells {n : Nat} {sl : Nat × Nat} {kd : Nat → Nat × Nat} {I : Nat → Nat → Int32} {L : Nat → Nat → Int64} {Rf : Nat → Nat → Option Nat} (d : Nat) {T : zT} {H : Nat} (hM : zM n kd I L Rf T) (hO : zOk H T) (b : Int32) (t : Int32) : zq mX11_tells (d + 20) [.ref 112, .int b, .int t] (n, sl, kd, I, L, Rf) (zpM n sl kd I L Rf (some (.int (s_tells T b t).1)) (s_tells T b t).2) := by
  by_cases hb0 : 0 ≤ b ∧ b < nI T.c
  · obtain ⟨b0, hb, rfl⟩ := pk_of (by have := hO.c; omega) hb0.1 hb0.2
    by_cases ht : 0 ≤ t ∧ t ≤ 5
    · by_cases he : T.x (7 + b0) = t
      · exact y_X11_tells_eq d hM hO hb ht he
      · exact y_X11_tells_ok d hM hO hb ht he
    · exact y_X11_tells_nx d hM hO hb ht
  · exact y_X11_tells_no d hM hO hb0
theorem y_X11_refusesMove_no {n : Nat} {sl : Nat × Nat} {kd : Nat → Nat × Nat} {I : Nat → Nat → Int32} {L : Nat → Nat → Int64} {Rf : Nat → Nat → Option Nat} (d : Nat) {T : zT} {H : Nat} (hM : zM n kd I L Rf T) (hO : zOk H T) {b : Int32} (hb : ¬ (0 ≤ b ∧ b < nI T.c)) {t : Int32}  : zq mX11_refusesMove (d + 2) [.ref 112, .int b, .int t] (n, sl, kd, I, L, Rf) (eb_r (-1) (n, sl, kd, I, L, Rf)) := by
  intro f B
  refine ez_meth pn_X.2.2.2.2.2.2.2.2.2.2.2 (Nat.le_of_ble_eq_true rfl) ?_
  have hF := hM.F
  have hc7 := hO.c
  show ez_P _ _ _ _ _ _ 0 [(0, .ref 112), (1, .int b), (2, .int t)] [] (n, sl, kd, I, L, Rf) _
  refine ez_aload_n (i := 0) dX11_refusesMove_0 rfl rfl ?_
  refine ez_iload_n (i := 1) dX11_refusesMove_1 rfl rfl ?_
  refine ez_callV (M1 := mX11_isOne) (rest := []) dX11_refusesMove_2 mlX11_221 mvX11_isOne rfl (hF.lt (by decide)) (hF.kc (by decide) rfl) (Nat.le_of_ble_eq_true rfl) rfl (zq_b0 hb (y_X11_isOne d hF hM.c hO.c b)) eb_rok ?_
  rintro _ _ ⟨rfl, rfl⟩
  show ez_P _ _ _ _ _ _ 5 [(0, .ref 112), (1, .int b), (2, .int t)] (.int 0 :: []) _ _
  refine ez_if_eq (tgt := 18) dX11_refusesMove_5 (by decide) (fun c1 => ?_) (fun c1 => absurd (by decide) c1)
  refine ez_iconst (v := (-1)) dX11_refusesMove_18 (by decide) ?_
  refine ez_iret dX11_refusesMove_19 rfl rfl ?_
  exact ⟨rfl, rfl⟩
theorem y_X11_moves_no {n : Nat} {sl : Nat × Nat} {kd : Nat → Nat × Nat} {I : Nat → Nat → Int32} {L : Nat → Nat → Int64} {Rf : Nat → Nat → Option Nat} (d : Nat) {T : zT} {H : Nat} (hM : zM n kd I L Rf T) (hO : zOk H T) {b : Int32} (hb : ¬ (0 ≤ b ∧ b < nI T.c)) {t : Int32}  : zq mX11_moves (d + 20) [.ref 112, .int b, .int t] (n, sl, kd, I, L, Rf) (zpM n sl kd I L Rf (some (.int (s_moves T b t).1)) (s_moves T b t).2) := by
  intro f B
  refine ez_meth pn_X.2.2.2.2.2.2.2.2.2.2.2 (Nat.le_of_ble_eq_true rfl) ?_
  have hF := hM.F
  have hc7 := hO.c
  have hsp : s_moves T b t = (-1, T) := (by unfold s_moves; rw [if_neg (fun e => hb e.1)])
  rw [hsp]
  show ez_P _ _ _ _ _ _ 0 [(0, .ref 112), (1, .int b), (2, .int t)] [] (n, sl, kd, I, L, Rf) _
  refine ez_aload_n (i := 0) dX11_moves_0 rfl rfl ?_
  refine ez_iconst (v := 0) dX11_moves_1 (by decide) ?_
  refine ez_pI dX11_moves_2 plX11_89 (hF.lt (by decide)) (hF.lx (by decide)) (hF.kc (by decide) rfl) rfl rfl ?_
  refine ez_nmI (fun I1 hI1 => ?_)
  have hM1 : zM n kd I1 L Rf T := by rw [hI1]; exact hM.f9
  refine ez_aload_n (i := 0) dX11_moves_5 rfl rfl ?_
  refine ez_iload_n (i := 1) dX11_moves_6 rfl rfl ?_
  refine ez_iload_n (i := 2) dX11_moves_7 rfl rfl ?_
  refine ez_callV (M1 := mX11_refusesMove) (rest := []) dX11_moves_8 mlX11_259 mvX11_refusesMove rfl (hF.lt (by decide)) (hF.kc (by decide) rfl) (Nat.le_of_ble_eq_true rfl) rfl (y_X11_refusesMove_no (d + 17) hM1 hO hb) eb_rok ?_
  rintro _ _ ⟨rfl, rfl⟩
  show ez_P _ _ _ _ _ _ 11 [(0, .ref 112), (1, .int b), (2, .int t)] (.int ((-1)) :: []) _ _
  refine ez_istore_n (l' := [(3, .int ((-1))), (0, .ref 112), (1, .int b), (2, .int t)]) dX11_moves_11 rfl (by decide) rfl ?_
  refine ez_iload_n (i := 3) dX11_moves_12 rfl rfl ?_
  refine ez_if_ge (tgt := 18) dX11_moves_13 (by decide) (fun c2 => absurd c2 (by decide)) (fun c2 => ?_)
  refine ez_iload_n (i := 3) dX11_moves_16 rfl rfl ?_
  refine ez_iret dX11_moves_17 rfl rfl ?_
  have hJ : ∀ c, c ≠ 112 → I1 c = I c := fun c g112 => by rw [hI1, z_set_ne (by omega)]
  have hJf : ∀ k, k ≠ 9 → I1 112 k = I 112 k := fun k g9 => by rw [hI1, z_set_nk (by omega)]
  exact ⟨rfl, _, _, _, rfl, ⟨hM.F, hM.ru, (by rw [(hJf 18 (by decide)), (hJ 119 (by decide))]; exact hM.rv), ⟨(hJf 6 (by decide)).trans hM.tx.1, fun k hk => by rw [(hJ 116 (by decide))]; exact hM.tx.2 k hk⟩, ⟨(hJf 8 (by decide)).trans hM.rw.1, hM.rw.2⟩, (by rw [(hJ 114 (by decide))]; exact hM.pr), ((hJf 4 (by decide)).trans hM.wm), (by rw [(hJ 115 (by decide))]; exact hM.wd), ((hJf 1 (by decide)).trans hM.c), (by rw [(hJ 113 (by decide))]; exact hM.x), (by rw [(hJf 22 (by decide)), (hJ 122 (by decide))]; exact hM.un), (by rw [(hJf 38 (by decide)), (hJ 134 (by decide)), (hJ 135 (by decide)), (hJ 136 (by decide))]; exact hM.kp), (by rw [(hJf 30 (by decide)), (hJ 126 (by decide)), (hJ 127 (by decide)), (hJ 128 (by decide))]; exact hM.sn), (by rw [(hJf 34 (by decide)), (hJ 130 (by decide)), (hJ 131 (by decide))]; exact hM.hd)⟩, (by rw [hI1, z_set_at]), fun c hc => ⟨hJ c (by omega), rfl, rfl⟩⟩
theorem y_X11_refusesMove_nx {n : Nat} {sl : Nat × Nat} {kd : Nat → Nat × Nat} {I : Nat → Nat → Int32} {L : Nat → Nat → Int64} {Rf : Nat → Nat → Option Nat} (d : Nat) {T : zT} {H : Nat} (hM : zM n kd I L Rf T) (hO : zOk H T) {b0 : Nat} (hb : b0 < T.c) {t : Int32} (ht : ¬ ((-5) ≤ t ∧ t ≤ 5))  : zq mX11_refusesMove (d + 2) [.ref 112, .int (nI b0), .int t] (n, sl, kd, I, L, Rf) (eb_r (-1) (n, sl, kd, I, L, Rf)) := by
  intro f B
  refine ez_meth pn_X.2.2.2.2.2.2.2.2.2.2.2 (Nat.le_of_ble_eq_true rfl) ?_
  have hF := hM.F
  have hc7 := hO.c
  show ez_P _ _ _ _ _ _ 0 [(0, .ref 112), (1, .int (nI b0)), (2, .int t)] [] (n, sl, kd, I, L, Rf) _
  refine ez_aload_n (i := 0) dX11_refusesMove_0 rfl rfl ?_
  refine ez_iload_n (i := 1) dX11_refusesMove_1 rfl rfl ?_
  refine ez_callV (M1 := mX11_isOne) (rest := []) dX11_refusesMove_2 mlX11_221 mvX11_isOne rfl (hF.lt (by decide)) (hF.kc (by decide) rfl) (Nat.le_of_ble_eq_true rfl) rfl (zq_b1 (z_bin hb hO.c) (y_X11_isOne d hF hM.c hO.c (nI b0))) eb_rok ?_
  rintro _ _ ⟨rfl, rfl⟩
  show ez_P _ _ _ _ _ _ 5 [(0, .ref 112), (1, .int (nI b0)), (2, .int t)] (.int 1 :: []) _ _
  refine ez_if_eq (tgt := 18) dX11_refusesMove_5 (by decide) (fun c1 => absurd c1 (by decide)) (fun c1 => ?_)
  refine ez_iload_n (i := 2) dX11_refusesMove_8 rfl rfl ?_
  refine ez_bipush (v := (-5)) dX11_refusesMove_9 (by decide) ?_
  refine ez_iconst (v := 5) dX11_refusesMove_11 (by decide) ?_
  refine ez_callS (M1 := mX11_in) (rest := []) dX11_refusesMove_12 mlX11_98 msX11_in rfl (Nat.le_of_ble_eq_true rfl) rfl (zq_b0 ht (zq_b (q_X11_in (d + 1) t (-5) 5) (n, sl, kd, I, L, Rf))) eb_rok ?_
  rintro _ _ ⟨rfl, rfl⟩
  show ez_P _ _ _ _ _ _ 15 [(0, .ref 112), (1, .int (nI b0)), (2, .int t)] (.int 0 :: []) _ _
  refine ez_if_ne (tgt := 20) dX11_refusesMove_15 (by decide) (fun c2 => absurd c2 (by decide)) (fun c2 => ?_)
  refine ez_iconst (v := (-1)) dX11_refusesMove_18 (by decide) ?_
  refine ez_iret dX11_refusesMove_19 rfl rfl ?_
  exact ⟨rfl, rfl⟩
theorem y_X11_moves_nx {n : Nat} {sl : Nat × Nat} {kd : Nat → Nat × Nat} {I : Nat → Nat → Int32} {L : Nat → Nat → Int64} {Rf : Nat → Nat → Option Nat} (d : Nat) {T : zT} {H : Nat} (hM : zM n kd I L Rf T) (hO : zOk H T) {b0 : Nat} (hb : b0 < T.c) {t : Int32} (ht : ¬ ((-5) ≤ t ∧ t ≤ 5))  : zq mX11_moves (d + 20) [.ref 112, .int (nI b0), .int t] (n, sl, kd, I, L, Rf) (zpM n sl kd I L Rf (some (.int (s_moves T (nI b0) t).1)) (s_moves T (nI b0) t).2) := by
  intro f B
  refine ez_meth pn_X.2.2.2.2.2.2.2.2.2.2.2 (Nat.le_of_ble_eq_true rfl) ?_
  have hF := hM.F
  have hc7 := hO.c
  have hsp : s_moves T (nI b0) t = (-1, T) := (by unfold s_moves; rw [if_neg (fun e => ht e.2)])
  rw [hsp]
  show ez_P _ _ _ _ _ _ 0 [(0, .ref 112), (1, .int (nI b0)), (2, .int t)] [] (n, sl, kd, I, L, Rf) _
  refine ez_aload_n (i := 0) dX11_moves_0 rfl rfl ?_
  refine ez_iconst (v := 0) dX11_moves_1 (by decide) ?_
  refine ez_pI dX11_moves_2 plX11_89 (hF.lt (by decide)) (hF.lx (by decide)) (hF.kc (by decide) rfl) rfl rfl ?_
  refine ez_nmI (fun I1 hI1 => ?_)
  have hM1 : zM n kd I1 L Rf T := by rw [hI1]; exact hM.f9
  refine ez_aload_n (i := 0) dX11_moves_5 rfl rfl ?_
  refine ez_iload_n (i := 1) dX11_moves_6 rfl rfl ?_
  refine ez_iload_n (i := 2) dX11_moves_7 rfl rfl ?_
  refine ez_callV (M1 := mX11_refusesMove) (rest := []) dX11_moves_8 mlX11_259 mvX11_refusesMove rfl (hF.lt (by decide)) (hF.kc (by decide) rfl) (Nat.le_of_ble_eq_true rfl) rfl (y_X11_refusesMove_nx (d + 17) hM1 hO hb ht) eb_rok ?_
  rintro _ _ ⟨rfl, rfl⟩
  show ez_P _ _ _ _ _ _ 11 [(0, .ref 112), (1, .int (nI b0)), (2, .int t)] (.int ((-1)) :: []) _ _
  refine ez_istore_n (l' := [(3, .int ((-1))), (0, .ref 112), (1, .int (nI b0)), (2, .int t)]) dX11_moves_11 rfl (by decide) rfl ?_
  refine ez_iload_n (i := 3) dX11_moves_12 rfl rfl ?_
  refine ez_if_ge (tgt := 18) dX11_moves_13 (by decide) (fun c2 => absurd c2 (by decide)) (fun c2 => ?_)
  refine ez_iload_n (i := 3) dX11_moves_16 rfl rfl ?_
  refine ez_iret dX11_moves_17 rfl rfl ?_
  have hJ : ∀ c, c ≠ 112 → I1 c = I c := fun c g112 => by rw [hI1, z_set_ne (by omega)]
  have hJf : ∀ k, k ≠ 9 → I1 112 k = I 112 k := fun k g9 => by rw [hI1, z_set_nk (by omega)]
  exact ⟨rfl, _, _, _, rfl, ⟨hM.F, hM.ru, (by rw [(hJf 18 (by decide)), (hJ 119 (by decide))]; exact hM.rv), ⟨(hJf 6 (by decide)).trans hM.tx.1, fun k hk => by rw [(hJ 116 (by decide))]; exact hM.tx.2 k hk⟩, ⟨(hJf 8 (by decide)).trans hM.rw.1, hM.rw.2⟩, (by rw [(hJ 114 (by decide))]; exact hM.pr), ((hJf 4 (by decide)).trans hM.wm), (by rw [(hJ 115 (by decide))]; exact hM.wd), ((hJf 1 (by decide)).trans hM.c), (by rw [(hJ 113 (by decide))]; exact hM.x), (by rw [(hJf 22 (by decide)), (hJ 122 (by decide))]; exact hM.un), (by rw [(hJf 38 (by decide)), (hJ 134 (by decide)), (hJ 135 (by decide)), (hJ 136 (by decide))]; exact hM.kp), (by rw [(hJf 30 (by decide)), (hJ 126 (by decide)), (hJ 127 (by decide)), (hJ 128 (by decide))]; exact hM.sn), (by rw [(hJf 34 (by decide)), (hJ 130 (by decide)), (hJ 131 (by decide))]; exact hM.hd)⟩, (by rw [hI1, z_set_at]), fun c hc => ⟨hJ c (by omega), rfl, rfl⟩⟩
theorem y_X11_refusesMove_eq {n : Nat} {sl : Nat × Nat} {kd : Nat → Nat × Nat} {I : Nat → Nat → Int32} {L : Nat → Nat → Int64} {Rf : Nat → Nat → Option Nat} (d : Nat) {T : zT} {H : Nat} (hM : zM n kd I L Rf T) (hO : zOk H T) {b0 : Nat} (hb : b0 < T.c) {t : Int32} (ht : (-5) ≤ t ∧ t ≤ 5) (he : T.x (14 + b0) = t)  : zq mX11_refusesMove (d + 2) [.ref 112, .int (nI b0), .int t] (n, sl, kd, I, L, Rf) (eb_r (-2) (n, sl, kd, I, L, Rf)) := by
  intro f B
  refine ez_meth pn_X.2.2.2.2.2.2.2.2.2.2.2 (Nat.le_of_ble_eq_true rfl) ?_
  have hF := hM.F
  have hc7 := hO.c
  show ez_P _ _ _ _ _ _ 0 [(0, .ref 112), (1, .int (nI b0)), (2, .int t)] [] (n, sl, kd, I, L, Rf) _
  refine ez_aload_n (i := 0) dX11_refusesMove_0 rfl rfl ?_
  refine ez_iload_n (i := 1) dX11_refusesMove_1 rfl rfl ?_
  refine ez_callV (M1 := mX11_isOne) (rest := []) dX11_refusesMove_2 mlX11_221 mvX11_isOne rfl (hF.lt (by decide)) (hF.kc (by decide) rfl) (Nat.le_of_ble_eq_true rfl) rfl (zq_b1 (z_bin hb hO.c) (y_X11_isOne d hF hM.c hO.c (nI b0))) eb_rok ?_
  rintro _ _ ⟨rfl, rfl⟩
  show ez_P _ _ _ _ _ _ 5 [(0, .ref 112), (1, .int (nI b0)), (2, .int t)] (.int 1 :: []) _ _
  refine ez_if_eq (tgt := 18) dX11_refusesMove_5 (by decide) (fun c1 => absurd c1 (by decide)) (fun c1 => ?_)
  refine ez_iload_n (i := 2) dX11_refusesMove_8 rfl rfl ?_
  refine ez_bipush (v := (-5)) dX11_refusesMove_9 (by decide) ?_
  refine ez_iconst (v := 5) dX11_refusesMove_11 (by decide) ?_
  refine ez_callS (M1 := mX11_in) (rest := []) dX11_refusesMove_12 mlX11_98 msX11_in rfl (Nat.le_of_ble_eq_true rfl) rfl (zq_b1 ht (zq_b (q_X11_in (d + 1) t (-5) 5) (n, sl, kd, I, L, Rf))) eb_rok ?_
  rintro _ _ ⟨rfl, rfl⟩
  show ez_P _ _ _ _ _ _ 15 [(0, .ref 112), (1, .int (nI b0)), (2, .int t)] (.int 1 :: []) _ _
  refine ez_if_ne (tgt := 20) dX11_refusesMove_15 (by decide) (fun c2 => ?_) (fun c2 => absurd (by decide) c2)
  refine ez_aload_n (i := 0) dX11_refusesMove_20 rfl rfl ?_
  refine ez_getR dX11_refusesMove_21 flX11_9 (hF.lt (by decide)) (hF.kc (by decide) rfl) (hF.pt 107 rfl) ?_
  refine ez_bipush (v := 14) dX11_refusesMove_24 (by decide) ?_
  refine ez_iload_n (i := 1) dX11_refusesMove_26 rfl rfl ?_
  refine ez_iadd dX11_refusesMove_27 ?_
  refine ez_topE (y := nI (14 + b0)) (nI_add _ _) ?_
  refine ez_iaN (k := (14 + b0)) dX11_refusesMove_28 (hF.lt (by decide)) (hF.ka (by decide) rfl) (by omega) (by decide) ?_
  refine ez_topE (y := T.x (14 + b0)) (hM.x (14 + b0) (by have := hO.c; omega)) ?_
  refine ez_iload_n (i := 2) dX11_refusesMove_29 rfl rfl ?_
  refine ez_icmp_ne (tgt := 38) dX11_refusesMove_30 (by decide) (fun c3 => absurd c3 (fun g => g he)) (fun c3 => ?_)
  refine ez_bipush (v := (-2)) dX11_refusesMove_33 (by decide) ?_
  refine ez_goto (tgt := 39) dX11_refusesMove_35 (by decide) ?_
  refine ez_iret dX11_refusesMove_39 rfl rfl ?_
  exact ⟨rfl, rfl⟩
theorem y_X11_moves_eq {n : Nat} {sl : Nat × Nat} {kd : Nat → Nat × Nat} {I : Nat → Nat → Int32} {L : Nat → Nat → Int64} {Rf : Nat → Nat → Option Nat} (d : Nat) {T : zT} {H : Nat} (hM : zM n kd I L Rf T) (hO : zOk H T) {b0 : Nat} (hb : b0 < T.c) {t : Int32} (ht : (-5) ≤ t ∧ t ≤ 5) (he : T.x (14 + b0) = t)  : zq mX11_moves (d + 20) [.ref 112, .int (nI b0), .int t] (n, sl, kd, I, L, Rf) (zpM n sl kd I L Rf (some (.int (s_moves T (nI b0) t).1)) (s_moves T (nI b0) t).2) := by
  intro f B
  refine ez_meth pn_X.2.2.2.2.2.2.2.2.2.2.2 (Nat.le_of_ble_eq_true rfl) ?_
  have hF := hM.F
  have hc7 := hO.c
  have hsp : s_moves T (nI b0) t = (-2, T) := (by unfold s_moves; rw [if_pos (⟨z_bin hb hO.c, ht⟩), z_btn hb hO.c, if_pos he])
  rw [hsp]
  show ez_P _ _ _ _ _ _ 0 [(0, .ref 112), (1, .int (nI b0)), (2, .int t)] [] (n, sl, kd, I, L, Rf) _
  refine ez_aload_n (i := 0) dX11_moves_0 rfl rfl ?_
  refine ez_iconst (v := 0) dX11_moves_1 (by decide) ?_
  refine ez_pI dX11_moves_2 plX11_89 (hF.lt (by decide)) (hF.lx (by decide)) (hF.kc (by decide) rfl) rfl rfl ?_
  refine ez_nmI (fun I1 hI1 => ?_)
  have hM1 : zM n kd I1 L Rf T := by rw [hI1]; exact hM.f9
  refine ez_aload_n (i := 0) dX11_moves_5 rfl rfl ?_
  refine ez_iload_n (i := 1) dX11_moves_6 rfl rfl ?_
  refine ez_iload_n (i := 2) dX11_moves_7 rfl rfl ?_
  refine ez_callV (M1 := mX11_refusesMove) (rest := []) dX11_moves_8 mlX11_259 mvX11_refusesMove rfl (hF.lt (by decide)) (hF.kc (by decide) rfl) (Nat.le_of_ble_eq_true rfl) rfl (y_X11_refusesMove_eq (d + 17) hM1 hO hb ht he) eb_rok ?_
  rintro _ _ ⟨rfl, rfl⟩
  show ez_P _ _ _ _ _ _ 11 [(0, .ref 112), (1, .int (nI b0)), (2, .int t)] (.int ((-2)) :: []) _ _
  refine ez_istore_n (l' := [(3, .int ((-2))), (0, .ref 112), (1, .int (nI b0)), (2, .int t)]) dX11_moves_11 rfl (by decide) rfl ?_
  refine ez_iload_n (i := 3) dX11_moves_12 rfl rfl ?_
  refine ez_if_ge (tgt := 18) dX11_moves_13 (by decide) (fun c2 => absurd c2 (by decide)) (fun c2 => ?_)
  refine ez_iload_n (i := 3) dX11_moves_16 rfl rfl ?_
  refine ez_iret dX11_moves_17 rfl rfl ?_
  have hJ : ∀ c, c ≠ 112 → I1 c = I c := fun c g112 => by rw [hI1, z_set_ne (by omega)]
  have hJf : ∀ k, k ≠ 9 → I1 112 k = I 112 k := fun k g9 => by rw [hI1, z_set_nk (by omega)]
  exact ⟨rfl, _, _, _, rfl, ⟨hM.F, hM.ru, (by rw [(hJf 18 (by decide)), (hJ 119 (by decide))]; exact hM.rv), ⟨(hJf 6 (by decide)).trans hM.tx.1, fun k hk => by rw [(hJ 116 (by decide))]; exact hM.tx.2 k hk⟩, ⟨(hJf 8 (by decide)).trans hM.rw.1, hM.rw.2⟩, (by rw [(hJ 114 (by decide))]; exact hM.pr), ((hJf 4 (by decide)).trans hM.wm), (by rw [(hJ 115 (by decide))]; exact hM.wd), ((hJf 1 (by decide)).trans hM.c), (by rw [(hJ 113 (by decide))]; exact hM.x), (by rw [(hJf 22 (by decide)), (hJ 122 (by decide))]; exact hM.un), (by rw [(hJf 38 (by decide)), (hJ 134 (by decide)), (hJ 135 (by decide)), (hJ 136 (by decide))]; exact hM.kp), (by rw [(hJf 30 (by decide)), (hJ 126 (by decide)), (hJ 127 (by decide)), (hJ 128 (by decide))]; exact hM.sn), (by rw [(hJf 34 (by decide)), (hJ 130 (by decide)), (hJ 131 (by decide))]; exact hM.hd)⟩, (by rw [hI1, z_set_at]), fun c hc => ⟨hJ c (by omega), rfl, rfl⟩⟩
theorem y_X11_refusesMove_ok {n : Nat} {sl : Nat × Nat} {kd : Nat → Nat × Nat} {I : Nat → Nat → Int32} {L : Nat → Nat → Int64} {Rf : Nat → Nat → Option Nat} (d : Nat) {T : zT} {H : Nat} (hM : zM n kd I L Rf T) (hO : zOk H T) {b0 : Nat} (hb : b0 < T.c) {t : Int32} (ht : (-5) ≤ t ∧ t ≤ 5) (he : T.x (14 + b0) ≠ t)  : zq mX11_refusesMove (d + 2) [.ref 112, .int (nI b0), .int t] (n, sl, kd, I, L, Rf) (eb_r 0 (n, sl, kd, I, L, Rf)) := by
  intro f B
  refine ez_meth pn_X.2.2.2.2.2.2.2.2.2.2.2 (Nat.le_of_ble_eq_true rfl) ?_
  have hF := hM.F
  have hc7 := hO.c
  show ez_P _ _ _ _ _ _ 0 [(0, .ref 112), (1, .int (nI b0)), (2, .int t)] [] (n, sl, kd, I, L, Rf) _
  refine ez_aload_n (i := 0) dX11_refusesMove_0 rfl rfl ?_
  refine ez_iload_n (i := 1) dX11_refusesMove_1 rfl rfl ?_
  refine ez_callV (M1 := mX11_isOne) (rest := []) dX11_refusesMove_2 mlX11_221 mvX11_isOne rfl (hF.lt (by decide)) (hF.kc (by decide) rfl) (Nat.le_of_ble_eq_true rfl) rfl (zq_b1 (z_bin hb hO.c) (y_X11_isOne d hF hM.c hO.c (nI b0))) eb_rok ?_
  rintro _ _ ⟨rfl, rfl⟩
  show ez_P _ _ _ _ _ _ 5 [(0, .ref 112), (1, .int (nI b0)), (2, .int t)] (.int 1 :: []) _ _
  refine ez_if_eq (tgt := 18) dX11_refusesMove_5 (by decide) (fun c1 => absurd c1 (by decide)) (fun c1 => ?_)
  refine ez_iload_n (i := 2) dX11_refusesMove_8 rfl rfl ?_
  refine ez_bipush (v := (-5)) dX11_refusesMove_9 (by decide) ?_
  refine ez_iconst (v := 5) dX11_refusesMove_11 (by decide) ?_
  refine ez_callS (M1 := mX11_in) (rest := []) dX11_refusesMove_12 mlX11_98 msX11_in rfl (Nat.le_of_ble_eq_true rfl) rfl (zq_b1 ht (zq_b (q_X11_in (d + 1) t (-5) 5) (n, sl, kd, I, L, Rf))) eb_rok ?_
  rintro _ _ ⟨rfl, rfl⟩
  show ez_P _ _ _ _ _ _ 15 [(0, .ref 112), (1, .int (nI b0)), (2, .int t)] (.int 1 :: []) _ _
  refine ez_if_ne (tgt := 20) dX11_refusesMove_15 (by decide) (fun c2 => ?_) (fun c2 => absurd (by decide) c2)
  refine ez_aload_n (i := 0) dX11_refusesMove_20 rfl rfl ?_
  refine ez_getR dX11_refusesMove_21 flX11_9 (hF.lt (by decide)) (hF.kc (by decide) rfl) (hF.pt 107 rfl) ?_
  refine ez_bipush (v := 14) dX11_refusesMove_24 (by decide) ?_
  refine ez_iload_n (i := 1) dX11_refusesMove_26 rfl rfl ?_
  refine ez_iadd dX11_refusesMove_27 ?_
  refine ez_topE (y := nI (14 + b0)) (nI_add _ _) ?_
  refine ez_iaN (k := (14 + b0)) dX11_refusesMove_28 (hF.lt (by decide)) (hF.ka (by decide) rfl) (by omega) (by decide) ?_
  refine ez_topE (y := T.x (14 + b0)) (hM.x (14 + b0) (by have := hO.c; omega)) ?_
  refine ez_iload_n (i := 2) dX11_refusesMove_29 rfl rfl ?_
  refine ez_icmp_ne (tgt := 38) dX11_refusesMove_30 (by decide) (fun c3 => ?_) (fun c3 => absurd he c3)
  refine ez_iconst (v := 0) dX11_refusesMove_38 (by decide) ?_
  refine ez_iret dX11_refusesMove_39 rfl rfl ?_
  exact ⟨rfl, rfl⟩
theorem y_X11_moves_ok {n : Nat} {sl : Nat × Nat} {kd : Nat → Nat × Nat} {I : Nat → Nat → Int32} {L : Nat → Nat → Int64} {Rf : Nat → Nat → Option Nat} (d : Nat) {T : zT} {H : Nat} (hM : zM n kd I L Rf T) (hO : zOk H T) {b0 : Nat} (hb : b0 < T.c) {t : Int32} (ht : (-5) ≤ t ∧ t ≤ 5) (he : T.x (14 + b0) ≠ t)  : zq mX11_moves (d + 20) [.ref 112, .int (nI b0), .int t] (n, sl, kd, I, L, Rf) (zpM n sl kd I L Rf (some (.int (s_moves T (nI b0) t).1)) (s_moves T (nI b0) t).2) := by
  intro f B
  refine ez_meth pn_X.2.2.2.2.2.2.2.2.2.2.2 (Nat.le_of_ble_eq_true rfl) ?_
  have hF := hM.F
  have hc7 := hO.c
  have hsp : s_moves T (nI b0) t = (z_ab (T.x (14 + b0) - t), zdo T (zup T.x (14 + b0) t)) := (by unfold s_moves; rw [if_pos (⟨z_bin hb hO.c, ht⟩), z_btn hb hO.c, if_neg he])
  rw [hsp]
  show ez_P _ _ _ _ _ _ 0 [(0, .ref 112), (1, .int (nI b0)), (2, .int t)] [] (n, sl, kd, I, L, Rf) _
  refine ez_aload_n (i := 0) dX11_moves_0 rfl rfl ?_
  refine ez_iconst (v := 0) dX11_moves_1 (by decide) ?_
  refine ez_pI dX11_moves_2 plX11_89 (hF.lt (by decide)) (hF.lx (by decide)) (hF.kc (by decide) rfl) rfl rfl ?_
  refine ez_nmI (fun I1 hI1 => ?_)
  have hM1 : zM n kd I1 L Rf T := by rw [hI1]; exact hM.f9
  refine ez_aload_n (i := 0) dX11_moves_5 rfl rfl ?_
  refine ez_iload_n (i := 1) dX11_moves_6 rfl rfl ?_
  refine ez_iload_n (i := 2) dX11_moves_7 rfl rfl ?_
  refine ez_callV (M1 := mX11_refusesMove) (rest := []) dX11_moves_8 mlX11_259 mvX11_refusesMove rfl (hF.lt (by decide)) (hF.kc (by decide) rfl) (Nat.le_of_ble_eq_true rfl) rfl (y_X11_refusesMove_ok (d + 17) hM1 hO hb ht he) eb_rok ?_
  rintro _ _ ⟨rfl, rfl⟩
  show ez_P _ _ _ _ _ _ 11 [(0, .ref 112), (1, .int (nI b0)), (2, .int t)] (.int 0 :: []) _ _
  refine ez_istore_n (l' := [(3, .int 0), (0, .ref 112), (1, .int (nI b0)), (2, .int t)]) dX11_moves_11 rfl (by decide) rfl ?_
  refine ez_iload_n (i := 3) dX11_moves_12 rfl rfl ?_
  refine ez_if_ge (tgt := 18) dX11_moves_13 (by decide) (fun c2 => ?_) (fun c2 => absurd (by decide) c2)
  refine ez_aload_n (i := 0) dX11_moves_18 rfl rfl ?_
  refine ez_aload_n (i := 0) dX11_moves_19 rfl rfl ?_
  refine ez_getR dX11_moves_20 flX11_9 (hF.lt (by decide)) (hF.kc (by decide) rfl) (hF.pt 107 rfl) ?_
  refine ez_callV (M1 := mX11_remember) (rest := []) dX11_moves_23 mlX11_246 mvX11_remember rfl (hF.lt (by decide)) (hF.kc (by decide) rfl) (Nat.le_of_ble_eq_true rfl) rfl (y_X11_remember (I := I1) (p := 113) (d + 18) hF (Or.inl rfl) (hF.ka (by decide) rfl) hM1.un.1 hO.unl) (eb_vok rfl) ?_
  rintro _ _ ⟨rfl, rfl⟩
  show ez_P _ _ _ _ _ _ 26 [(3, .int 0), (0, .ref 112), (1, .int (nI b0)), (2, .int t)] [] (n, sl, kd, z_rem I1 113 T.un.length, L, Rf) _
  refine ez_nmI (fun I3 hI3 => ?_)
  refine ez_aload_n (i := 0) dX11_moves_26 rfl rfl ?_
  refine ez_getR dX11_moves_27 flX11_9 (hF.lt (by decide)) (hF.kc (by decide) rfl) (hF.pt 107 rfl) ?_
  refine ez_bipush (v := 14) dX11_moves_30 (by decide) ?_
  refine ez_iload_n (i := 1) dX11_moves_32 rfl rfl ?_
  refine ez_iadd dX11_moves_33 ?_
  refine ez_topE (y := nI (14 + b0)) (nI_add _ _) ?_
  refine ez_iaN (k := (14 + b0)) dX11_moves_34 (hF.lt (by decide)) (hF.ka (by decide) rfl) (by omega) (by decide) ?_
  refine ez_topE (y := I 113 (14 + b0)) (by rw [hI3, z_rem_ne (by decide) (by decide), hI1, z_set_ne (by decide)]) ?_
  refine ez_topE (y := T.x (14 + b0)) (hM.x (14 + b0) (by have := hO.c; omega)) ?_
  refine ez_iload_n (i := 2) dX11_moves_35 rfl rfl ?_
  refine ez_isub dX11_moves_36 ?_
  refine ez_abs dX11_moves_37 xmX11_192 (Nat.le_of_ble_eq_true rfl) ?_
  refine ez_topE (y := z_ab (T.x (14 + b0) - t)) rfl ?_
  refine ez_istore (l' := [(4, .int (z_ab (T.x (14 + b0) - t))), (3, .int 0), (0, .ref 112), (1, .int (nI b0)), (2, .int t)]) dX11_moves_40 (by decide) rfl ?_
  refine ez_aload_n (i := 0) dX11_moves_42 rfl rfl ?_
  refine ez_getR dX11_moves_43 flX11_9 (hF.lt (by decide)) (hF.kc (by decide) rfl) (hF.pt 107 rfl) ?_
  refine ez_bipush (v := 14) dX11_moves_46 (by decide) ?_
  refine ez_iload_n (i := 1) dX11_moves_48 rfl rfl ?_
  refine ez_iadd dX11_moves_49 ?_
  refine ez_topE (y := nI (14 + b0)) (nI_add _ _) ?_
  refine ez_iload_n (i := 2) dX11_moves_50 rfl rfl ?_
  refine ez_isN (k := (14 + b0)) dX11_moves_51 (hF.lt (by decide)) (hF.lx (by decide)) (hF.ka (by decide) rfl) (by omega) (by decide) ?_
  refine ez_nmI (fun I4 hI4 => ?_)
  refine ez_iload (i := 4) dX11_moves_52 rfl ?_
  refine ez_iret dX11_moves_54 rfl rfl ?_
  have hJ : ∀ c, c ≠ 112 → c ≠ 113 → c ≠ 122 → I4 c = I c := fun c g112 g113 g122 => by rw [hI4, z_set_ne (by omega), hI3, z_rem_ne (by omega) (by omega), hI1, z_set_ne (by omega)]
  have hJf : ∀ k, k ≠ 9 → k ≠ 22 → I4 112 k = I 112 k := fun k g9 g22 => by rw [hI4, z_set_ne (by decide), hI3, z_rem_f (by omega), hI1, z_set_nk (by omega)]
  exact ⟨rfl, _, _, _, rfl, ⟨hM.F, hM.ru, (by rw [(hJf 18 (by decide) (by decide)), (hJ 119 (by decide) (by decide) (by decide))]; exact hM.rv), ⟨(hJf 6 (by decide) (by decide)).trans hM.tx.1, fun k hk => by rw [(hJ 116 (by decide) (by decide) (by decide))]; exact hM.tx.2 k hk⟩, ⟨(hJf 8 (by decide) (by decide)).trans hM.rw.1, hM.rw.2⟩, (by rw [(hJ 114 (by decide) (by decide) (by decide))]; exact hM.pr), ((hJf 4 (by decide) (by decide)).trans hM.wm), (by rw [(hJ 115 (by decide) (by decide) (by decide))]; exact hM.wd), ((hJf 1 (by decide) (by decide)).trans hM.c), (by rw [hI4]; refine z_upx ?_; rw [hI3, z_rem_ne (by decide) (by decide)]; exact hM1.x), (by rw [hI4, z_set_ne (by decide), z_set_ne (by decide), hI3]; exact z_rem_un (by decide) (by decide) hO.unl hM1.un hM1.x), (by rw [(hJf 38 (by decide) (by decide)), (hJ 134 (by decide) (by decide) (by decide)), (hJ 135 (by decide) (by decide) (by decide)), (hJ 136 (by decide) (by decide) (by decide))]; exact hM.kp), (by rw [(hJf 30 (by decide) (by decide)), (hJ 126 (by decide) (by decide) (by decide)), (hJ 127 (by decide) (by decide) (by decide)), (hJ 128 (by decide) (by decide) (by decide))]; exact hM.sn), (by rw [(hJf 34 (by decide) (by decide)), (hJ 130 (by decide) (by decide) (by decide)), (hJ 131 (by decide) (by decide) (by decide))]; exact hM.hd)⟩, (by rw [hI4, z_set_ne (by decide), hI3, z_rem_f (by decide), hI1, z_set_at]), fun c hc => ⟨hJ c (by omega) (by omega) (by omega), rfl, rfl⟩⟩
theorem y_X11_moves {n : Nat} {sl : Nat × Nat} {kd : Nat → Nat × Nat} {I : Nat → Nat → Int32} {L : Nat → Nat → Int64} {Rf : Nat → Nat → Option Nat} (d : Nat) {T : zT} {H : Nat} (hM : zM n kd I L Rf T) (hO : zOk H T) (b : Int32) (t : Int32) : zq mX11_moves (d + 20) [.ref 112, .int b, .int t] (n, sl, kd, I, L, Rf) (zpM n sl kd I L Rf (some (.int (s_moves T b t).1)) (s_moves T b t).2) := by
  by_cases hb0 : 0 ≤ b ∧ b < nI T.c
  · obtain ⟨b0, hb, rfl⟩ := pk_of (by have := hO.c; omega) hb0.1 hb0.2
    by_cases ht : (-5) ≤ t ∧ t ≤ 5
    · by_cases he : T.x (14 + b0) = t
      · exact y_X11_moves_eq d hM hO hb ht he
      · exact y_X11_moves_ok d hM hO hb ht he
    · exact y_X11_moves_nx d hM hO hb ht
  · exact y_X11_moves_no d hM hO hb0
theorem y_X11_refusesEase_no {n : Nat} {sl : Nat × Nat} {kd : Nat → Nat × Nat} {I : Nat → Nat → Int32} {L : Nat → Nat → Int64} {Rf : Nat → Nat → Option Nat} (d : Nat) {T : zT} {H : Nat} (hM : zM n kd I L Rf T) (hO : zOk H T) {b : Int32} (hb : ¬ (0 ≤ b ∧ b < nI T.c))  : zq mX11_refusesEase (d + 2) [.ref 112, .int b] (n, sl, kd, I, L, Rf) (eb_r (-1) (n, sl, kd, I, L, Rf)) := by
  intro f B
  refine ez_meth pn_X.2.2.2.2.2.2.2.2.2.2.2 (Nat.le_of_ble_eq_true rfl) ?_
  have hF := hM.F
  have hc7 := hO.c
  show ez_P _ _ _ _ _ _ 0 [(0, .ref 112), (1, .int b)] [] (n, sl, kd, I, L, Rf) _
  refine ez_aload_n (i := 0) dX11_refusesEase_0 rfl rfl ?_
  refine ez_iload_n (i := 1) dX11_refusesEase_1 rfl rfl ?_
  refine ez_callV (M1 := mX11_isOne) (rest := []) dX11_refusesEase_2 mlX11_221 mvX11_isOne rfl (hF.lt (by decide)) (hF.kc (by decide) rfl) (Nat.le_of_ble_eq_true rfl) rfl (zq_b0 hb (y_X11_isOne d hF hM.c hO.c b)) eb_rok ?_
  rintro _ _ ⟨rfl, rfl⟩
  show ez_P _ _ _ _ _ _ 5 [(0, .ref 112), (1, .int b)] (.int 0 :: []) _ _
  refine ez_if_ne (tgt := 10) dX11_refusesEase_5 (by decide) (fun c1 => absurd c1 (by decide)) (fun c1 => ?_)
  refine ez_iconst (v := (-1)) dX11_refusesEase_8 (by decide) ?_
  refine ez_iret dX11_refusesEase_9 rfl rfl ?_
  exact ⟨rfl, rfl⟩
theorem y_X11_eases_no {n : Nat} {sl : Nat × Nat} {kd : Nat → Nat × Nat} {I : Nat → Nat → Int32} {L : Nat → Nat → Int64} {Rf : Nat → Nat → Option Nat} (d : Nat) {T : zT} {H : Nat} (hM : zM n kd I L Rf T) (hO : zOk H T) {b : Int32} (hb : ¬ (0 ≤ b ∧ b < nI T.c))  : zq mX11_eases (d + 20) [.ref 112, .int b] (n, sl, kd, I, L, Rf) (zpM n sl kd I L Rf (some (.int (s_eases T b).1)) (s_eases T b).2) := by
  intro f B
  refine ez_meth pn_X.2.2.2.2.2.2.2.2.2.2.2 (Nat.le_of_ble_eq_true rfl) ?_
  have hF := hM.F
  have hc7 := hO.c
  have hsp : s_eases T b = (-1, T) := (by unfold s_eases; rw [if_neg (fun e => hb e)])
  rw [hsp]
  show ez_P _ _ _ _ _ _ 0 [(0, .ref 112), (1, .int b)] [] (n, sl, kd, I, L, Rf) _
  refine ez_aload_n (i := 0) dX11_eases_0 rfl rfl ?_
  refine ez_iconst (v := 0) dX11_eases_1 (by decide) ?_
  refine ez_pI dX11_eases_2 plX11_89 (hF.lt (by decide)) (hF.lx (by decide)) (hF.kc (by decide) rfl) rfl rfl ?_
  refine ez_nmI (fun I1 hI1 => ?_)
  have hM1 : zM n kd I1 L Rf T := by rw [hI1]; exact hM.f9
  refine ez_aload_n (i := 0) dX11_eases_5 rfl rfl ?_
  refine ez_iload_n (i := 1) dX11_eases_6 rfl rfl ?_
  refine ez_callV (M1 := mX11_refusesEase) (rest := []) dX11_eases_7 mlX11_262 mvX11_refusesEase rfl (hF.lt (by decide)) (hF.kc (by decide) rfl) (Nat.le_of_ble_eq_true rfl) rfl (y_X11_refusesEase_no (d + 17) hM1 hO hb) eb_rok ?_
  rintro _ _ ⟨rfl, rfl⟩
  show ez_P _ _ _ _ _ _ 10 [(0, .ref 112), (1, .int b)] (.int ((-1)) :: []) _ _
  refine ez_istore_n (l' := [(2, .int ((-1))), (0, .ref 112), (1, .int b)]) dX11_eases_10 rfl (by decide) rfl ?_
  refine ez_iload_n (i := 2) dX11_eases_11 rfl rfl ?_
  refine ez_if_ge (tgt := 17) dX11_eases_12 (by decide) (fun c2 => absurd c2 (by decide)) (fun c2 => ?_)
  refine ez_iload_n (i := 2) dX11_eases_15 rfl rfl ?_
  refine ez_iret dX11_eases_16 rfl rfl ?_
  have hJ : ∀ c, c ≠ 112 → I1 c = I c := fun c g112 => by rw [hI1, z_set_ne (by omega)]
  have hJf : ∀ k, k ≠ 9 → I1 112 k = I 112 k := fun k g9 => by rw [hI1, z_set_nk (by omega)]
  exact ⟨rfl, _, _, _, rfl, ⟨hM.F, hM.ru, (by rw [(hJf 18 (by decide)), (hJ 119 (by decide))]; exact hM.rv), ⟨(hJf 6 (by decide)).trans hM.tx.1, fun k hk => by rw [(hJ 116 (by decide))]; exact hM.tx.2 k hk⟩, ⟨(hJf 8 (by decide)).trans hM.rw.1, hM.rw.2⟩, (by rw [(hJ 114 (by decide))]; exact hM.pr), ((hJf 4 (by decide)).trans hM.wm), (by rw [(hJ 115 (by decide))]; exact hM.wd), ((hJf 1 (by decide)).trans hM.c), (by rw [(hJ 113 (by decide))]; exact hM.x), (by rw [(hJf 22 (by decide)), (hJ 122 (by decide))]; exact hM.un), (by rw [(hJf 38 (by decide)), (hJ 134 (by decide)), (hJ 135 (by decide)), (hJ 136 (by decide))]; exact hM.kp), (by rw [(hJf 30 (by decide)), (hJ 126 (by decide)), (hJ 127 (by decide)), (hJ 128 (by decide))]; exact hM.sn), (by rw [(hJf 34 (by decide)), (hJ 130 (by decide)), (hJ 131 (by decide))]; exact hM.hd)⟩, (by rw [hI1, z_set_at]), fun c hc => ⟨hJ c (by omega), rfl, rfl⟩⟩
theorem y_X11_refusesEase_eq {n : Nat} {sl : Nat × Nat} {kd : Nat → Nat × Nat} {I : Nat → Nat → Int32} {L : Nat → Nat → Int64} {Rf : Nat → Nat → Option Nat} (d : Nat) {T : zT} {H : Nat} (hM : zM n kd I L Rf T) (hO : zOk H T) {b0 : Nat} (hb : b0 < T.c) (he : T.x b0 = 0)  : zq mX11_refusesEase (d + 2) [.ref 112, .int (nI b0)] (n, sl, kd, I, L, Rf) (eb_r (-2) (n, sl, kd, I, L, Rf)) := by
  intro f B
  refine ez_meth pn_X.2.2.2.2.2.2.2.2.2.2.2 (Nat.le_of_ble_eq_true rfl) ?_
  have hF := hM.F
  have hc7 := hO.c
  show ez_P _ _ _ _ _ _ 0 [(0, .ref 112), (1, .int (nI b0))] [] (n, sl, kd, I, L, Rf) _
  refine ez_aload_n (i := 0) dX11_refusesEase_0 rfl rfl ?_
  refine ez_iload_n (i := 1) dX11_refusesEase_1 rfl rfl ?_
  refine ez_callV (M1 := mX11_isOne) (rest := []) dX11_refusesEase_2 mlX11_221 mvX11_isOne rfl (hF.lt (by decide)) (hF.kc (by decide) rfl) (Nat.le_of_ble_eq_true rfl) rfl (zq_b1 (z_bin hb hO.c) (y_X11_isOne d hF hM.c hO.c (nI b0))) eb_rok ?_
  rintro _ _ ⟨rfl, rfl⟩
  show ez_P _ _ _ _ _ _ 5 [(0, .ref 112), (1, .int (nI b0))] (.int 1 :: []) _ _
  refine ez_if_ne (tgt := 10) dX11_refusesEase_5 (by decide) (fun c1 => ?_) (fun c1 => absurd (by decide) c1)
  refine ez_aload_n (i := 0) dX11_refusesEase_10 rfl rfl ?_
  refine ez_getR dX11_refusesEase_11 flX11_9 (hF.lt (by decide)) (hF.kc (by decide) rfl) (hF.pt 107 rfl) ?_
  refine ez_iload_n (i := 1) dX11_refusesEase_14 rfl rfl ?_
  refine ez_iaN (k := b0) dX11_refusesEase_15 (hF.lt (by decide)) (hF.ka (by decide) rfl) (by omega) (by decide) ?_
  refine ez_topE (y := T.x b0) (hM.x b0 (by have := hO.c; omega)) ?_
  refine ez_if_ne (tgt := 24) dX11_refusesEase_16 (by decide) (fun c2 => absurd c2 (fun g => g he)) (fun c2 => ?_)
  refine ez_bipush (v := (-2)) dX11_refusesEase_19 (by decide) ?_
  refine ez_goto (tgt := 25) dX11_refusesEase_21 (by decide) ?_
  refine ez_iret dX11_refusesEase_25 rfl rfl ?_
  exact ⟨rfl, rfl⟩
theorem y_X11_eases_eq {n : Nat} {sl : Nat × Nat} {kd : Nat → Nat × Nat} {I : Nat → Nat → Int32} {L : Nat → Nat → Int64} {Rf : Nat → Nat → Option Nat} (d : Nat) {T : zT} {H : Nat} (hM : zM n kd I L Rf T) (hO : zOk H T) {b0 : Nat} (hb : b0 < T.c) (he : T.x b0 = 0)  : zq mX11_eases (d + 20) [.ref 112, .int (nI b0)] (n, sl, kd, I, L, Rf) (zpM n sl kd I L Rf (some (.int (s_eases T (nI b0)).1)) (s_eases T (nI b0)).2) := by
  intro f B
  refine ez_meth pn_X.2.2.2.2.2.2.2.2.2.2.2 (Nat.le_of_ble_eq_true rfl) ?_
  have hF := hM.F
  have hc7 := hO.c
  have hsp : s_eases T (nI b0) = (-2, T) := (by unfold s_eases; rw [if_pos (z_bin hb hO.c), z_btn hb hO.c, if_pos he])
  rw [hsp]
  show ez_P _ _ _ _ _ _ 0 [(0, .ref 112), (1, .int (nI b0))] [] (n, sl, kd, I, L, Rf) _
  refine ez_aload_n (i := 0) dX11_eases_0 rfl rfl ?_
  refine ez_iconst (v := 0) dX11_eases_1 (by decide) ?_
  refine ez_pI dX11_eases_2 plX11_89 (hF.lt (by decide)) (hF.lx (by decide)) (hF.kc (by decide) rfl) rfl rfl ?_
  refine ez_nmI (fun I1 hI1 => ?_)
  have hM1 : zM n kd I1 L Rf T := by rw [hI1]; exact hM.f9
  refine ez_aload_n (i := 0) dX11_eases_5 rfl rfl ?_
  refine ez_iload_n (i := 1) dX11_eases_6 rfl rfl ?_
  refine ez_callV (M1 := mX11_refusesEase) (rest := []) dX11_eases_7 mlX11_262 mvX11_refusesEase rfl (hF.lt (by decide)) (hF.kc (by decide) rfl) (Nat.le_of_ble_eq_true rfl) rfl (y_X11_refusesEase_eq (d + 17) hM1 hO hb he) eb_rok ?_
  rintro _ _ ⟨rfl, rfl⟩
  show ez_P _ _ _ _ _ _ 10 [(0, .ref 112), (1, .int (nI b0))] (.int ((-2)) :: []) _ _
  refine ez_istore_n (l' := [(2, .int ((-2))), (0, .ref 112), (1, .int (nI b0))]) dX11_eases_10 rfl (by decide) rfl ?_
  refine ez_iload_n (i := 2) dX11_eases_11 rfl rfl ?_
  refine ez_if_ge (tgt := 17) dX11_eases_12 (by decide) (fun c2 => absurd c2 (by decide)) (fun c2 => ?_)
  refine ez_iload_n (i := 2) dX11_eases_15 rfl rfl ?_
  refine ez_iret dX11_eases_16 rfl rfl ?_
  have hJ : ∀ c, c ≠ 112 → I1 c = I c := fun c g112 => by rw [hI1, z_set_ne (by omega)]
  have hJf : ∀ k, k ≠ 9 → I1 112 k = I 112 k := fun k g9 => by rw [hI1, z_set_nk (by omega)]
  exact ⟨rfl, _, _, _, rfl, ⟨hM.F, hM.ru, (by rw [(hJf 18 (by decide)), (hJ 119 (by decide))]; exact hM.rv), ⟨(hJf 6 (by decide)).trans hM.tx.1, fun k hk => by rw [(hJ 116 (by decide))]; exact hM.tx.2 k hk⟩, ⟨(hJf 8 (by decide)).trans hM.rw.1, hM.rw.2⟩, (by rw [(hJ 114 (by decide))]; exact hM.pr), ((hJf 4 (by decide)).trans hM.wm), (by rw [(hJ 115 (by decide))]; exact hM.wd), ((hJf 1 (by decide)).trans hM.c), (by rw [(hJ 113 (by decide))]; exact hM.x), (by rw [(hJf 22 (by decide)), (hJ 122 (by decide))]; exact hM.un), (by rw [(hJf 38 (by decide)), (hJ 134 (by decide)), (hJ 135 (by decide)), (hJ 136 (by decide))]; exact hM.kp), (by rw [(hJf 30 (by decide)), (hJ 126 (by decide)), (hJ 127 (by decide)), (hJ 128 (by decide))]; exact hM.sn), (by rw [(hJf 34 (by decide)), (hJ 130 (by decide)), (hJ 131 (by decide))]; exact hM.hd)⟩, (by rw [hI1, z_set_at]), fun c hc => ⟨hJ c (by omega), rfl, rfl⟩⟩
theorem y_X11_refusesEase_ok {n : Nat} {sl : Nat × Nat} {kd : Nat → Nat × Nat} {I : Nat → Nat → Int32} {L : Nat → Nat → Int64} {Rf : Nat → Nat → Option Nat} (d : Nat) {T : zT} {H : Nat} (hM : zM n kd I L Rf T) (hO : zOk H T) {b0 : Nat} (hb : b0 < T.c) (he : T.x b0 ≠ 0)  : zq mX11_refusesEase (d + 2) [.ref 112, .int (nI b0)] (n, sl, kd, I, L, Rf) (eb_r 0 (n, sl, kd, I, L, Rf)) := by
  intro f B
  refine ez_meth pn_X.2.2.2.2.2.2.2.2.2.2.2 (Nat.le_of_ble_eq_true rfl) ?_
  have hF := hM.F
  have hc7 := hO.c
  show ez_P _ _ _ _ _ _ 0 [(0, .ref 112), (1, .int (nI b0))] [] (n, sl, kd, I, L, Rf) _
  refine ez_aload_n (i := 0) dX11_refusesEase_0 rfl rfl ?_
  refine ez_iload_n (i := 1) dX11_refusesEase_1 rfl rfl ?_
  refine ez_callV (M1 := mX11_isOne) (rest := []) dX11_refusesEase_2 mlX11_221 mvX11_isOne rfl (hF.lt (by decide)) (hF.kc (by decide) rfl) (Nat.le_of_ble_eq_true rfl) rfl (zq_b1 (z_bin hb hO.c) (y_X11_isOne d hF hM.c hO.c (nI b0))) eb_rok ?_
  rintro _ _ ⟨rfl, rfl⟩
  show ez_P _ _ _ _ _ _ 5 [(0, .ref 112), (1, .int (nI b0))] (.int 1 :: []) _ _
  refine ez_if_ne (tgt := 10) dX11_refusesEase_5 (by decide) (fun c1 => ?_) (fun c1 => absurd (by decide) c1)
  refine ez_aload_n (i := 0) dX11_refusesEase_10 rfl rfl ?_
  refine ez_getR dX11_refusesEase_11 flX11_9 (hF.lt (by decide)) (hF.kc (by decide) rfl) (hF.pt 107 rfl) ?_
  refine ez_iload_n (i := 1) dX11_refusesEase_14 rfl rfl ?_
  refine ez_iaN (k := b0) dX11_refusesEase_15 (hF.lt (by decide)) (hF.ka (by decide) rfl) (by omega) (by decide) ?_
  refine ez_topE (y := T.x b0) (hM.x b0 (by have := hO.c; omega)) ?_
  refine ez_if_ne (tgt := 24) dX11_refusesEase_16 (by decide) (fun c2 => ?_) (fun c2 => absurd he c2)
  refine ez_iconst (v := 0) dX11_refusesEase_24 (by decide) ?_
  refine ez_iret dX11_refusesEase_25 rfl rfl ?_
  exact ⟨rfl, rfl⟩
theorem y_X11_eases_ok {n : Nat} {sl : Nat × Nat} {kd : Nat → Nat × Nat} {I : Nat → Nat → Int32} {L : Nat → Nat → Int64} {Rf : Nat → Nat → Option Nat} (d : Nat) {T : zT} {H : Nat} (hM : zM n kd I L Rf T) (hO : zOk H T) {b0 : Nat} (hb : b0 < T.c) (he : T.x b0 ≠ 0)  : zq mX11_eases (d + 20) [.ref 112, .int (nI b0)] (n, sl, kd, I, L, Rf) (zpM n sl kd I L Rf (some (.int (s_eases T (nI b0)).1)) (s_eases T (nI b0)).2) := by
  intro f B
  refine ez_meth pn_X.2.2.2.2.2.2.2.2.2.2.2 (Nat.le_of_ble_eq_true rfl) ?_
  have hF := hM.F
  have hc7 := hO.c
  have hsp : s_eases T (nI b0) = (T.x b0 - 1, zdo T (zup T.x b0 (T.x b0 - 1))) := (by unfold s_eases; rw [if_pos (z_bin hb hO.c), z_btn hb hO.c, if_neg he])
  rw [hsp]
  show ez_P _ _ _ _ _ _ 0 [(0, .ref 112), (1, .int (nI b0))] [] (n, sl, kd, I, L, Rf) _
  refine ez_aload_n (i := 0) dX11_eases_0 rfl rfl ?_
  refine ez_iconst (v := 0) dX11_eases_1 (by decide) ?_
  refine ez_pI dX11_eases_2 plX11_89 (hF.lt (by decide)) (hF.lx (by decide)) (hF.kc (by decide) rfl) rfl rfl ?_
  refine ez_nmI (fun I1 hI1 => ?_)
  have hM1 : zM n kd I1 L Rf T := by rw [hI1]; exact hM.f9
  refine ez_aload_n (i := 0) dX11_eases_5 rfl rfl ?_
  refine ez_iload_n (i := 1) dX11_eases_6 rfl rfl ?_
  refine ez_callV (M1 := mX11_refusesEase) (rest := []) dX11_eases_7 mlX11_262 mvX11_refusesEase rfl (hF.lt (by decide)) (hF.kc (by decide) rfl) (Nat.le_of_ble_eq_true rfl) rfl (y_X11_refusesEase_ok (d + 17) hM1 hO hb he) eb_rok ?_
  rintro _ _ ⟨rfl, rfl⟩
  show ez_P _ _ _ _ _ _ 10 [(0, .ref 112), (1, .int (nI b0))] (.int 0 :: []) _ _
  refine ez_istore_n (l' := [(2, .int 0), (0, .ref 112), (1, .int (nI b0))]) dX11_eases_10 rfl (by decide) rfl ?_
  refine ez_iload_n (i := 2) dX11_eases_11 rfl rfl ?_
  refine ez_if_ge (tgt := 17) dX11_eases_12 (by decide) (fun c2 => ?_) (fun c2 => absurd (by decide) c2)
  refine ez_aload_n (i := 0) dX11_eases_17 rfl rfl ?_
  refine ez_aload_n (i := 0) dX11_eases_18 rfl rfl ?_
  refine ez_getR dX11_eases_19 flX11_9 (hF.lt (by decide)) (hF.kc (by decide) rfl) (hF.pt 107 rfl) ?_
  refine ez_callV (M1 := mX11_remember) (rest := []) dX11_eases_22 mlX11_246 mvX11_remember rfl (hF.lt (by decide)) (hF.kc (by decide) rfl) (Nat.le_of_ble_eq_true rfl) rfl (y_X11_remember (I := I1) (p := 113) (d + 18) hF (Or.inl rfl) (hF.ka (by decide) rfl) hM1.un.1 hO.unl) (eb_vok rfl) ?_
  rintro _ _ ⟨rfl, rfl⟩
  show ez_P _ _ _ _ _ _ 25 [(2, .int 0), (0, .ref 112), (1, .int (nI b0))] [] (n, sl, kd, z_rem I1 113 T.un.length, L, Rf) _
  refine ez_nmI (fun I3 hI3 => ?_)
  refine ez_aload_n (i := 0) dX11_eases_25 rfl rfl ?_
  refine ez_getR dX11_eases_26 flX11_9 (hF.lt (by decide)) (hF.kc (by decide) rfl) (hF.pt 107 rfl) ?_
  refine ez_iload_n (i := 1) dX11_eases_29 rfl rfl ?_
  refine ez_dup2 dX11_eases_30 rfl rfl ?_
  refine ez_iaN (k := b0) dX11_eases_31 (hF.lt (by decide)) (hF.ka (by decide) rfl) (by omega) (by decide) ?_
  refine ez_topE (y := I 113 b0) (by rw [hI3, z_rem_ne (by decide) (by decide), hI1, z_set_ne (by decide)]) ?_
  refine ez_topE (y := T.x b0) (hM.x b0 (by have := hO.c; omega)) ?_
  refine ez_iconst (v := 1) dX11_eases_32 (by decide) ?_
  refine ez_isub dX11_eases_33 ?_
  refine ez_isN (k := b0) dX11_eases_34 (hF.lt (by decide)) (hF.lx (by decide)) (hF.ka (by decide) rfl) (by omega) (by decide) ?_
  refine ez_nmI (fun I4 hI4 => ?_)
  refine ez_aload_n (i := 0) dX11_eases_35 rfl rfl ?_
  refine ez_getR dX11_eases_36 flX11_9 (hF.lt (by decide)) (hF.kc (by decide) rfl) (hF.pt 107 rfl) ?_
  refine ez_iload_n (i := 1) dX11_eases_39 rfl rfl ?_
  refine ez_iaN (k := b0) dX11_eases_40 (hF.lt (by decide)) (hF.ka (by decide) rfl) (by omega) (by decide) ?_
  refine ez_topE (y := (T.x b0) - 1) (by rw [hI4, z_set_at]) ?_
  refine ez_iret dX11_eases_41 rfl rfl ?_
  have hJ : ∀ c, c ≠ 112 → c ≠ 113 → c ≠ 122 → I4 c = I c := fun c g112 g113 g122 => by rw [hI4, z_set_ne (by omega), hI3, z_rem_ne (by omega) (by omega), hI1, z_set_ne (by omega)]
  have hJf : ∀ k, k ≠ 9 → k ≠ 22 → I4 112 k = I 112 k := fun k g9 g22 => by rw [hI4, z_set_ne (by decide), hI3, z_rem_f (by omega), hI1, z_set_nk (by omega)]
  exact ⟨rfl, _, _, _, rfl, ⟨hM.F, hM.ru, (by rw [(hJf 18 (by decide) (by decide)), (hJ 119 (by decide) (by decide) (by decide))]; exact hM.rv), ⟨(hJf 6 (by decide) (by decide)).trans hM.tx.1, fun k hk => by rw [(hJ 116 (by decide) (by decide) (by decide))]; exact hM.tx.2 k hk⟩, ⟨(hJf 8 (by decide) (by decide)).trans hM.rw.1, hM.rw.2⟩, (by rw [(hJ 114 (by decide) (by decide) (by decide))]; exact hM.pr), ((hJf 4 (by decide) (by decide)).trans hM.wm), (by rw [(hJ 115 (by decide) (by decide) (by decide))]; exact hM.wd), ((hJf 1 (by decide) (by decide)).trans hM.c), (by rw [hI4]; refine z_upx ?_; rw [hI3, z_rem_ne (by decide) (by decide)]; exact hM1.x), (by rw [hI4, z_set_ne (by decide), z_set_ne (by decide), hI3]; exact z_rem_un (by decide) (by decide) hO.unl hM1.un hM1.x), (by rw [(hJf 38 (by decide) (by decide)), (hJ 134 (by decide) (by decide) (by decide)), (hJ 135 (by decide) (by decide) (by decide)), (hJ 136 (by decide) (by decide) (by decide))]; exact hM.kp), (by rw [(hJf 30 (by decide) (by decide)), (hJ 126 (by decide) (by decide) (by decide)), (hJ 127 (by decide) (by decide) (by decide)), (hJ 128 (by decide) (by decide) (by decide))]; exact hM.sn), (by rw [(hJf 34 (by decide) (by decide)), (hJ 130 (by decide) (by decide) (by decide)), (hJ 131 (by decide) (by decide) (by decide))]; exact hM.hd)⟩, (by rw [hI4, z_set_ne (by decide), hI3, z_rem_f (by decide), hI1, z_set_at]), fun c hc => ⟨hJ c (by omega) (by omega) (by omega), rfl, rfl⟩⟩
theorem y_X11_eases {n : Nat} {sl : Nat × Nat} {kd : Nat → Nat × Nat} {I : Nat → Nat → Int32} {L : Nat → Nat → Int64} {Rf : Nat → Nat → Option Nat} (d : Nat) {T : zT} {H : Nat} (hM : zM n kd I L Rf T) (hO : zOk H T) (b : Int32) : zq mX11_eases (d + 20) [.ref 112, .int b] (n, sl, kd, I, L, Rf) (zpM n sl kd I L Rf (some (.int (s_eases T b).1)) (s_eases T b).2) := by
  by_cases hb0 : 0 ≤ b ∧ b < nI T.c
  · obtain ⟨b0, hb, rfl⟩ := pk_of (by have := hO.c; omega) hb0.1 hb0.2
    by_cases he : T.x b0 = 0
    · exact y_X11_eases_eq d hM hO hb he
    · exact y_X11_eases_ok d hM hO hb he
  · exact y_X11_eases_no d hM hO hb0
theorem y_X11_refusesPreaching_no {n : Nat} {sl : Nat × Nat} {kd : Nat → Nat × Nat} {I : Nat → Nat → Int32} {L : Nat → Nat → Int64} {Rf : Nat → Nat → Option Nat} (d : Nat) {T : zT} {H : Nat} (hM : zM n kd I L Rf T) (hO : zOk H T) {b : Int32} (hb : ¬ (0 ≤ b ∧ b < nI T.c)) {t : Int32}  : zq mX11_refusesPreaching (d + 2) [.ref 112, .int b, .int t] (n, sl, kd, I, L, Rf) (eb_r (-1) (n, sl, kd, I, L, Rf)) := by
  intro f B
  refine ez_meth pn_X.2.2.2.2.2.2.2.2.2.2.2 (Nat.le_of_ble_eq_true rfl) ?_
  have hF := hM.F
  have hc7 := hO.c
  show ez_P _ _ _ _ _ _ 0 [(0, .ref 112), (1, .int b), (2, .int t)] [] (n, sl, kd, I, L, Rf) _
  refine ez_aload_n (i := 0) dX11_refusesPreaching_0 rfl rfl ?_
  refine ez_iload_n (i := 1) dX11_refusesPreaching_1 rfl rfl ?_
  refine ez_callV (M1 := mX11_isOne) (rest := []) dX11_refusesPreaching_2 mlX11_221 mvX11_isOne rfl (hF.lt (by decide)) (hF.kc (by decide) rfl) (Nat.le_of_ble_eq_true rfl) rfl (zq_b0 hb (y_X11_isOne d hF hM.c hO.c b)) eb_rok ?_
  rintro _ _ ⟨rfl, rfl⟩
  show ez_P _ _ _ _ _ _ 5 [(0, .ref 112), (1, .int b), (2, .int t)] (.int 0 :: []) _ _
  refine ez_if_eq (tgt := 18) dX11_refusesPreaching_5 (by decide) (fun c1 => ?_) (fun c1 => absurd (by decide) c1)
  refine ez_iconst (v := (-1)) dX11_refusesPreaching_18 (by decide) ?_
  refine ez_iret dX11_refusesPreaching_19 rfl rfl ?_
  exact ⟨rfl, rfl⟩
theorem y_X11_preaches_no {n : Nat} {sl : Nat × Nat} {kd : Nat → Nat × Nat} {I : Nat → Nat → Int32} {L : Nat → Nat → Int64} {Rf : Nat → Nat → Option Nat} (d : Nat) {T : zT} {H : Nat} (hM : zM n kd I L Rf T) (hO : zOk H T) {b : Int32} (hb : ¬ (0 ≤ b ∧ b < nI T.c)) {t : Int32}  : zq mX11_preaches (d + 20) [.ref 112, .int b, .int t] (n, sl, kd, I, L, Rf) (zpM n sl kd I L Rf (some (.int (s_preaches T b t).1)) (s_preaches T b t).2) := by
  intro f B
  refine ez_meth pn_X.2.2.2.2.2.2.2.2.2.2.2 (Nat.le_of_ble_eq_true rfl) ?_
  have hF := hM.F
  have hc7 := hO.c
  have hsp : s_preaches T b t = (-1, T) := (by unfold s_preaches; rw [if_neg (fun e => hb e.1)])
  rw [hsp]
  show ez_P _ _ _ _ _ _ 0 [(0, .ref 112), (1, .int b), (2, .int t)] [] (n, sl, kd, I, L, Rf) _
  refine ez_aload_n (i := 0) dX11_preaches_0 rfl rfl ?_
  refine ez_iconst (v := 0) dX11_preaches_1 (by decide) ?_
  refine ez_pI dX11_preaches_2 plX11_89 (hF.lt (by decide)) (hF.lx (by decide)) (hF.kc (by decide) rfl) rfl rfl ?_
  refine ez_nmI (fun I1 hI1 => ?_)
  have hM1 : zM n kd I1 L Rf T := by rw [hI1]; exact hM.f9
  refine ez_aload_n (i := 0) dX11_preaches_5 rfl rfl ?_
  refine ez_iload_n (i := 1) dX11_preaches_6 rfl rfl ?_
  refine ez_iload_n (i := 2) dX11_preaches_7 rfl rfl ?_
  refine ez_callV (M1 := mX11_refusesPreaching) (rest := []) dX11_preaches_8 mlX11_265 mvX11_refusesPreaching rfl (hF.lt (by decide)) (hF.kc (by decide) rfl) (Nat.le_of_ble_eq_true rfl) rfl (y_X11_refusesPreaching_no (d + 17) hM1 hO hb) eb_rok ?_
  rintro _ _ ⟨rfl, rfl⟩
  show ez_P _ _ _ _ _ _ 11 [(0, .ref 112), (1, .int b), (2, .int t)] (.int ((-1)) :: []) _ _
  refine ez_istore_n (l' := [(3, .int ((-1))), (0, .ref 112), (1, .int b), (2, .int t)]) dX11_preaches_11 rfl (by decide) rfl ?_
  refine ez_iload_n (i := 3) dX11_preaches_12 rfl rfl ?_
  refine ez_if_ge (tgt := 18) dX11_preaches_13 (by decide) (fun c2 => absurd c2 (by decide)) (fun c2 => ?_)
  refine ez_iload_n (i := 3) dX11_preaches_16 rfl rfl ?_
  refine ez_iret dX11_preaches_17 rfl rfl ?_
  have hJ : ∀ c, c ≠ 112 → I1 c = I c := fun c g112 => by rw [hI1, z_set_ne (by omega)]
  have hJf : ∀ k, k ≠ 9 → I1 112 k = I 112 k := fun k g9 => by rw [hI1, z_set_nk (by omega)]
  exact ⟨rfl, _, _, _, rfl, ⟨hM.F, hM.ru, (by rw [(hJf 18 (by decide)), (hJ 119 (by decide))]; exact hM.rv), ⟨(hJf 6 (by decide)).trans hM.tx.1, fun k hk => by rw [(hJ 116 (by decide))]; exact hM.tx.2 k hk⟩, ⟨(hJf 8 (by decide)).trans hM.rw.1, hM.rw.2⟩, (by rw [(hJ 114 (by decide))]; exact hM.pr), ((hJf 4 (by decide)).trans hM.wm), (by rw [(hJ 115 (by decide))]; exact hM.wd), ((hJf 1 (by decide)).trans hM.c), (by rw [(hJ 113 (by decide))]; exact hM.x), (by rw [(hJf 22 (by decide)), (hJ 122 (by decide))]; exact hM.un), (by rw [(hJf 38 (by decide)), (hJ 134 (by decide)), (hJ 135 (by decide)), (hJ 136 (by decide))]; exact hM.kp), (by rw [(hJf 30 (by decide)), (hJ 126 (by decide)), (hJ 127 (by decide)), (hJ 128 (by decide))]; exact hM.sn), (by rw [(hJf 34 (by decide)), (hJ 130 (by decide)), (hJ 131 (by decide))]; exact hM.hd)⟩, (by rw [hI1, z_set_at]), fun c hc => ⟨hJ c (by omega), rfl, rfl⟩⟩
theorem y_X11_refusesPreaching_nx {n : Nat} {sl : Nat × Nat} {kd : Nat → Nat × Nat} {I : Nat → Nat → Int32} {L : Nat → Nat → Int64} {Rf : Nat → Nat → Option Nat} (d : Nat) {T : zT} {H : Nat} (hM : zM n kd I L Rf T) (hO : zOk H T) {b0 : Nat} (hb : b0 < T.c) {t : Int32} (ht : ¬ (1 ≤ t ∧ t ≤ 9))  : zq mX11_refusesPreaching (d + 2) [.ref 112, .int (nI b0), .int t] (n, sl, kd, I, L, Rf) (eb_r (-1) (n, sl, kd, I, L, Rf)) := by
  intro f B
  refine ez_meth pn_X.2.2.2.2.2.2.2.2.2.2.2 (Nat.le_of_ble_eq_true rfl) ?_
  have hF := hM.F
  have hc7 := hO.c
  show ez_P _ _ _ _ _ _ 0 [(0, .ref 112), (1, .int (nI b0)), (2, .int t)] [] (n, sl, kd, I, L, Rf) _
  refine ez_aload_n (i := 0) dX11_refusesPreaching_0 rfl rfl ?_
  refine ez_iload_n (i := 1) dX11_refusesPreaching_1 rfl rfl ?_
  refine ez_callV (M1 := mX11_isOne) (rest := []) dX11_refusesPreaching_2 mlX11_221 mvX11_isOne rfl (hF.lt (by decide)) (hF.kc (by decide) rfl) (Nat.le_of_ble_eq_true rfl) rfl (zq_b1 (z_bin hb hO.c) (y_X11_isOne d hF hM.c hO.c (nI b0))) eb_rok ?_
  rintro _ _ ⟨rfl, rfl⟩
  show ez_P _ _ _ _ _ _ 5 [(0, .ref 112), (1, .int (nI b0)), (2, .int t)] (.int 1 :: []) _ _
  refine ez_if_eq (tgt := 18) dX11_refusesPreaching_5 (by decide) (fun c1 => absurd c1 (by decide)) (fun c1 => ?_)
  refine ez_iload_n (i := 2) dX11_refusesPreaching_8 rfl rfl ?_
  refine ez_iconst (v := 1) dX11_refusesPreaching_9 (by decide) ?_
  refine ez_bipush (v := 9) dX11_refusesPreaching_10 (by decide) ?_
  refine ez_callS (M1 := mX11_in) (rest := []) dX11_refusesPreaching_12 mlX11_98 msX11_in rfl (Nat.le_of_ble_eq_true rfl) rfl (zq_b0 ht (zq_b (q_X11_in (d + 1) t 1 9) (n, sl, kd, I, L, Rf))) eb_rok ?_
  rintro _ _ ⟨rfl, rfl⟩
  show ez_P _ _ _ _ _ _ 15 [(0, .ref 112), (1, .int (nI b0)), (2, .int t)] (.int 0 :: []) _ _
  refine ez_if_ne (tgt := 20) dX11_refusesPreaching_15 (by decide) (fun c2 => absurd c2 (by decide)) (fun c2 => ?_)
  refine ez_iconst (v := (-1)) dX11_refusesPreaching_18 (by decide) ?_
  refine ez_iret dX11_refusesPreaching_19 rfl rfl ?_
  exact ⟨rfl, rfl⟩
theorem y_X11_preaches_nx {n : Nat} {sl : Nat × Nat} {kd : Nat → Nat × Nat} {I : Nat → Nat → Int32} {L : Nat → Nat → Int64} {Rf : Nat → Nat → Option Nat} (d : Nat) {T : zT} {H : Nat} (hM : zM n kd I L Rf T) (hO : zOk H T) {b0 : Nat} (hb : b0 < T.c) {t : Int32} (ht : ¬ (1 ≤ t ∧ t ≤ 9))  : zq mX11_preaches (d + 20) [.ref 112, .int (nI b0), .int t] (n, sl, kd, I, L, Rf) (zpM n sl kd I L Rf (some (.int (s_preaches T (nI b0) t).1)) (s_preaches T (nI b0) t).2) := by
  intro f B
  refine ez_meth pn_X.2.2.2.2.2.2.2.2.2.2.2 (Nat.le_of_ble_eq_true rfl) ?_
  have hF := hM.F
  have hc7 := hO.c
  have hsp : s_preaches T (nI b0) t = (-1, T) := (by unfold s_preaches; rw [if_neg (fun e => ht e.2)])
  rw [hsp]
  show ez_P _ _ _ _ _ _ 0 [(0, .ref 112), (1, .int (nI b0)), (2, .int t)] [] (n, sl, kd, I, L, Rf) _
  refine ez_aload_n (i := 0) dX11_preaches_0 rfl rfl ?_
  refine ez_iconst (v := 0) dX11_preaches_1 (by decide) ?_
  refine ez_pI dX11_preaches_2 plX11_89 (hF.lt (by decide)) (hF.lx (by decide)) (hF.kc (by decide) rfl) rfl rfl ?_
  refine ez_nmI (fun I1 hI1 => ?_)
  have hM1 : zM n kd I1 L Rf T := by rw [hI1]; exact hM.f9
  refine ez_aload_n (i := 0) dX11_preaches_5 rfl rfl ?_
  refine ez_iload_n (i := 1) dX11_preaches_6 rfl rfl ?_
  refine ez_iload_n (i := 2) dX11_preaches_7 rfl rfl ?_
  refine ez_callV (M1 := mX11_refusesPreaching) (rest := []) dX11_preaches_8 mlX11_265 mvX11_refusesPreaching rfl (hF.lt (by decide)) (hF.kc (by decide) rfl) (Nat.le_of_ble_eq_true rfl) rfl (y_X11_refusesPreaching_nx (d + 17) hM1 hO hb ht) eb_rok ?_
  rintro _ _ ⟨rfl, rfl⟩
  show ez_P _ _ _ _ _ _ 11 [(0, .ref 112), (1, .int (nI b0)), (2, .int t)] (.int ((-1)) :: []) _ _
  refine ez_istore_n (l' := [(3, .int ((-1))), (0, .ref 112), (1, .int (nI b0)), (2, .int t)]) dX11_preaches_11 rfl (by decide) rfl ?_
  refine ez_iload_n (i := 3) dX11_preaches_12 rfl rfl ?_
  refine ez_if_ge (tgt := 18) dX11_preaches_13 (by decide) (fun c2 => absurd c2 (by decide)) (fun c2 => ?_)
  refine ez_iload_n (i := 3) dX11_preaches_16 rfl rfl ?_
  refine ez_iret dX11_preaches_17 rfl rfl ?_
  have hJ : ∀ c, c ≠ 112 → I1 c = I c := fun c g112 => by rw [hI1, z_set_ne (by omega)]
  have hJf : ∀ k, k ≠ 9 → I1 112 k = I 112 k := fun k g9 => by rw [hI1, z_set_nk (by omega)]
  exact ⟨rfl, _, _, _, rfl, ⟨hM.F, hM.ru, (by rw [(hJf 18 (by decide)), (hJ 119 (by decide))]; exact hM.rv), ⟨(hJf 6 (by decide)).trans hM.tx.1, fun k hk => by rw [(hJ 116 (by decide))]; exact hM.tx.2 k hk⟩, ⟨(hJf 8 (by decide)).trans hM.rw.1, hM.rw.2⟩, (by rw [(hJ 114 (by decide))]; exact hM.pr), ((hJf 4 (by decide)).trans hM.wm), (by rw [(hJ 115 (by decide))]; exact hM.wd), ((hJf 1 (by decide)).trans hM.c), (by rw [(hJ 113 (by decide))]; exact hM.x), (by rw [(hJf 22 (by decide)), (hJ 122 (by decide))]; exact hM.un), (by rw [(hJf 38 (by decide)), (hJ 134 (by decide)), (hJ 135 (by decide)), (hJ 136 (by decide))]; exact hM.kp), (by rw [(hJf 30 (by decide)), (hJ 126 (by decide)), (hJ 127 (by decide)), (hJ 128 (by decide))]; exact hM.sn), (by rw [(hJf 34 (by decide)), (hJ 130 (by decide)), (hJ 131 (by decide))]; exact hM.hd)⟩, (by rw [hI1, z_set_at]), fun c hc => ⟨hJ c (by omega), rfl, rfl⟩⟩
theorem y_X11_refusesPreaching_eq {n : Nat} {sl : Nat × Nat} {kd : Nat → Nat × Nat} {I : Nat → Nat → Int32} {L : Nat → Nat → Int64} {Rf : Nat → Nat → Option Nat} (d : Nat) {T : zT} {H : Nat} (hM : zM n kd I L Rf T) (hO : zOk H T) {b0 : Nat} (hb : b0 < T.c) {t : Int32} (ht : 1 ≤ t ∧ t ≤ 9) (he : T.x b0 = 9)  : zq mX11_refusesPreaching (d + 2) [.ref 112, .int (nI b0), .int t] (n, sl, kd, I, L, Rf) (eb_r (-2) (n, sl, kd, I, L, Rf)) := by
  intro f B
  refine ez_meth pn_X.2.2.2.2.2.2.2.2.2.2.2 (Nat.le_of_ble_eq_true rfl) ?_
  have hF := hM.F
  have hc7 := hO.c
  show ez_P _ _ _ _ _ _ 0 [(0, .ref 112), (1, .int (nI b0)), (2, .int t)] [] (n, sl, kd, I, L, Rf) _
  refine ez_aload_n (i := 0) dX11_refusesPreaching_0 rfl rfl ?_
  refine ez_iload_n (i := 1) dX11_refusesPreaching_1 rfl rfl ?_
  refine ez_callV (M1 := mX11_isOne) (rest := []) dX11_refusesPreaching_2 mlX11_221 mvX11_isOne rfl (hF.lt (by decide)) (hF.kc (by decide) rfl) (Nat.le_of_ble_eq_true rfl) rfl (zq_b1 (z_bin hb hO.c) (y_X11_isOne d hF hM.c hO.c (nI b0))) eb_rok ?_
  rintro _ _ ⟨rfl, rfl⟩
  show ez_P _ _ _ _ _ _ 5 [(0, .ref 112), (1, .int (nI b0)), (2, .int t)] (.int 1 :: []) _ _
  refine ez_if_eq (tgt := 18) dX11_refusesPreaching_5 (by decide) (fun c1 => absurd c1 (by decide)) (fun c1 => ?_)
  refine ez_iload_n (i := 2) dX11_refusesPreaching_8 rfl rfl ?_
  refine ez_iconst (v := 1) dX11_refusesPreaching_9 (by decide) ?_
  refine ez_bipush (v := 9) dX11_refusesPreaching_10 (by decide) ?_
  refine ez_callS (M1 := mX11_in) (rest := []) dX11_refusesPreaching_12 mlX11_98 msX11_in rfl (Nat.le_of_ble_eq_true rfl) rfl (zq_b1 ht (zq_b (q_X11_in (d + 1) t 1 9) (n, sl, kd, I, L, Rf))) eb_rok ?_
  rintro _ _ ⟨rfl, rfl⟩
  show ez_P _ _ _ _ _ _ 15 [(0, .ref 112), (1, .int (nI b0)), (2, .int t)] (.int 1 :: []) _ _
  refine ez_if_ne (tgt := 20) dX11_refusesPreaching_15 (by decide) (fun c2 => ?_) (fun c2 => absurd (by decide) c2)
  refine ez_aload_n (i := 0) dX11_refusesPreaching_20 rfl rfl ?_
  refine ez_getR dX11_refusesPreaching_21 flX11_9 (hF.lt (by decide)) (hF.kc (by decide) rfl) (hF.pt 107 rfl) ?_
  refine ez_iload_n (i := 1) dX11_refusesPreaching_24 rfl rfl ?_
  refine ez_iaN (k := b0) dX11_refusesPreaching_25 (hF.lt (by decide)) (hF.ka (by decide) rfl) (by omega) (by decide) ?_
  refine ez_topE (y := T.x b0) (hM.x b0 (by have := hO.c; omega)) ?_
  refine ez_bipush (v := 9) dX11_refusesPreaching_26 (by decide) ?_
  refine ez_icmp_ne (tgt := 36) dX11_refusesPreaching_28 (by decide) (fun c3 => absurd c3 (fun g => g he)) (fun c3 => ?_)
  refine ez_bipush (v := (-2)) dX11_refusesPreaching_31 (by decide) ?_
  refine ez_goto (tgt := 37) dX11_refusesPreaching_33 (by decide) ?_
  refine ez_iret dX11_refusesPreaching_37 rfl rfl ?_
  exact ⟨rfl, rfl⟩
theorem y_X11_preaches_eq {n : Nat} {sl : Nat × Nat} {kd : Nat → Nat × Nat} {I : Nat → Nat → Int32} {L : Nat → Nat → Int64} {Rf : Nat → Nat → Option Nat} (d : Nat) {T : zT} {H : Nat} (hM : zM n kd I L Rf T) (hO : zOk H T) {b0 : Nat} (hb : b0 < T.c) {t : Int32} (ht : 1 ≤ t ∧ t ≤ 9) (he : T.x b0 = 9)  : zq mX11_preaches (d + 20) [.ref 112, .int (nI b0), .int t] (n, sl, kd, I, L, Rf) (zpM n sl kd I L Rf (some (.int (s_preaches T (nI b0) t).1)) (s_preaches T (nI b0) t).2) := by
  intro f B
  refine ez_meth pn_X.2.2.2.2.2.2.2.2.2.2.2 (Nat.le_of_ble_eq_true rfl) ?_
  have hF := hM.F
  have hc7 := hO.c
  have hsp : s_preaches T (nI b0) t = (-2, T) := (by unfold s_preaches; rw [if_pos (⟨z_bin hb hO.c, ht⟩), z_btn hb hO.c, if_pos he])
  rw [hsp]
  show ez_P _ _ _ _ _ _ 0 [(0, .ref 112), (1, .int (nI b0)), (2, .int t)] [] (n, sl, kd, I, L, Rf) _
  refine ez_aload_n (i := 0) dX11_preaches_0 rfl rfl ?_
  refine ez_iconst (v := 0) dX11_preaches_1 (by decide) ?_
  refine ez_pI dX11_preaches_2 plX11_89 (hF.lt (by decide)) (hF.lx (by decide)) (hF.kc (by decide) rfl) rfl rfl ?_
  refine ez_nmI (fun I1 hI1 => ?_)
  have hM1 : zM n kd I1 L Rf T := by rw [hI1]; exact hM.f9
  refine ez_aload_n (i := 0) dX11_preaches_5 rfl rfl ?_
  refine ez_iload_n (i := 1) dX11_preaches_6 rfl rfl ?_
  refine ez_iload_n (i := 2) dX11_preaches_7 rfl rfl ?_
  refine ez_callV (M1 := mX11_refusesPreaching) (rest := []) dX11_preaches_8 mlX11_265 mvX11_refusesPreaching rfl (hF.lt (by decide)) (hF.kc (by decide) rfl) (Nat.le_of_ble_eq_true rfl) rfl (y_X11_refusesPreaching_eq (d + 17) hM1 hO hb ht he) eb_rok ?_
  rintro _ _ ⟨rfl, rfl⟩
  show ez_P _ _ _ _ _ _ 11 [(0, .ref 112), (1, .int (nI b0)), (2, .int t)] (.int ((-2)) :: []) _ _
  refine ez_istore_n (l' := [(3, .int ((-2))), (0, .ref 112), (1, .int (nI b0)), (2, .int t)]) dX11_preaches_11 rfl (by decide) rfl ?_
  refine ez_iload_n (i := 3) dX11_preaches_12 rfl rfl ?_
  refine ez_if_ge (tgt := 18) dX11_preaches_13 (by decide) (fun c2 => absurd c2 (by decide)) (fun c2 => ?_)
  refine ez_iload_n (i := 3) dX11_preaches_16 rfl rfl ?_
  refine ez_iret dX11_preaches_17 rfl rfl ?_
  have hJ : ∀ c, c ≠ 112 → I1 c = I c := fun c g112 => by rw [hI1, z_set_ne (by omega)]
  have hJf : ∀ k, k ≠ 9 → I1 112 k = I 112 k := fun k g9 => by rw [hI1, z_set_nk (by omega)]
  exact ⟨rfl, _, _, _, rfl, ⟨hM.F, hM.ru, (by rw [(hJf 18 (by decide)), (hJ 119 (by decide))]; exact hM.rv), ⟨(hJf 6 (by decide)).trans hM.tx.1, fun k hk => by rw [(hJ 116 (by decide))]; exact hM.tx.2 k hk⟩, ⟨(hJf 8 (by decide)).trans hM.rw.1, hM.rw.2⟩, (by rw [(hJ 114 (by decide))]; exact hM.pr), ((hJf 4 (by decide)).trans hM.wm), (by rw [(hJ 115 (by decide))]; exact hM.wd), ((hJf 1 (by decide)).trans hM.c), (by rw [(hJ 113 (by decide))]; exact hM.x), (by rw [(hJf 22 (by decide)), (hJ 122 (by decide))]; exact hM.un), (by rw [(hJf 38 (by decide)), (hJ 134 (by decide)), (hJ 135 (by decide)), (hJ 136 (by decide))]; exact hM.kp), (by rw [(hJf 30 (by decide)), (hJ 126 (by decide)), (hJ 127 (by decide)), (hJ 128 (by decide))]; exact hM.sn), (by rw [(hJf 34 (by decide)), (hJ 130 (by decide)), (hJ 131 (by decide))]; exact hM.hd)⟩, (by rw [hI1, z_set_at]), fun c hc => ⟨hJ c (by omega), rfl, rfl⟩⟩
theorem y_X11_refusesPreaching_ok {n : Nat} {sl : Nat × Nat} {kd : Nat → Nat × Nat} {I : Nat → Nat → Int32} {L : Nat → Nat → Int64} {Rf : Nat → Nat → Option Nat} (d : Nat) {T : zT} {H : Nat} (hM : zM n kd I L Rf T) (hO : zOk H T) {b0 : Nat} (hb : b0 < T.c) {t : Int32} (ht : 1 ≤ t ∧ t ≤ 9) (he : T.x b0 ≠ 9)  : zq mX11_refusesPreaching (d + 2) [.ref 112, .int (nI b0), .int t] (n, sl, kd, I, L, Rf) (eb_r 0 (n, sl, kd, I, L, Rf)) := by
  intro f B
  refine ez_meth pn_X.2.2.2.2.2.2.2.2.2.2.2 (Nat.le_of_ble_eq_true rfl) ?_
  have hF := hM.F
  have hc7 := hO.c
  show ez_P _ _ _ _ _ _ 0 [(0, .ref 112), (1, .int (nI b0)), (2, .int t)] [] (n, sl, kd, I, L, Rf) _
  refine ez_aload_n (i := 0) dX11_refusesPreaching_0 rfl rfl ?_
  refine ez_iload_n (i := 1) dX11_refusesPreaching_1 rfl rfl ?_
  refine ez_callV (M1 := mX11_isOne) (rest := []) dX11_refusesPreaching_2 mlX11_221 mvX11_isOne rfl (hF.lt (by decide)) (hF.kc (by decide) rfl) (Nat.le_of_ble_eq_true rfl) rfl (zq_b1 (z_bin hb hO.c) (y_X11_isOne d hF hM.c hO.c (nI b0))) eb_rok ?_
  rintro _ _ ⟨rfl, rfl⟩
  show ez_P _ _ _ _ _ _ 5 [(0, .ref 112), (1, .int (nI b0)), (2, .int t)] (.int 1 :: []) _ _
  refine ez_if_eq (tgt := 18) dX11_refusesPreaching_5 (by decide) (fun c1 => absurd c1 (by decide)) (fun c1 => ?_)
  refine ez_iload_n (i := 2) dX11_refusesPreaching_8 rfl rfl ?_
  refine ez_iconst (v := 1) dX11_refusesPreaching_9 (by decide) ?_
  refine ez_bipush (v := 9) dX11_refusesPreaching_10 (by decide) ?_
  refine ez_callS (M1 := mX11_in) (rest := []) dX11_refusesPreaching_12 mlX11_98 msX11_in rfl (Nat.le_of_ble_eq_true rfl) rfl (zq_b1 ht (zq_b (q_X11_in (d + 1) t 1 9) (n, sl, kd, I, L, Rf))) eb_rok ?_
  rintro _ _ ⟨rfl, rfl⟩
  show ez_P _ _ _ _ _ _ 15 [(0, .ref 112), (1, .int (nI b0)), (2, .int t)] (.int 1 :: []) _ _
  refine ez_if_ne (tgt := 20) dX11_refusesPreaching_15 (by decide) (fun c2 => ?_) (fun c2 => absurd (by decide) c2)
  refine ez_aload_n (i := 0) dX11_refusesPreaching_20 rfl rfl ?_
  refine ez_getR dX11_refusesPreaching_21 flX11_9 (hF.lt (by decide)) (hF.kc (by decide) rfl) (hF.pt 107 rfl) ?_
  refine ez_iload_n (i := 1) dX11_refusesPreaching_24 rfl rfl ?_
  refine ez_iaN (k := b0) dX11_refusesPreaching_25 (hF.lt (by decide)) (hF.ka (by decide) rfl) (by omega) (by decide) ?_
  refine ez_topE (y := T.x b0) (hM.x b0 (by have := hO.c; omega)) ?_
  refine ez_bipush (v := 9) dX11_refusesPreaching_26 (by decide) ?_
  refine ez_icmp_ne (tgt := 36) dX11_refusesPreaching_28 (by decide) (fun c3 => ?_) (fun c3 => absurd he c3)
  refine ez_iconst (v := 0) dX11_refusesPreaching_36 (by decide) ?_
  refine ez_iret dX11_refusesPreaching_37 rfl rfl ?_
  exact ⟨rfl, rfl⟩
theorem y_X11_preaches_ok {n : Nat} {sl : Nat × Nat} {kd : Nat → Nat × Nat} {I : Nat → Nat → Int32} {L : Nat → Nat → Int64} {Rf : Nat → Nat → Option Nat} (d : Nat) {T : zT} {H : Nat} (hM : zM n kd I L Rf T) (hO : zOk H T) {b0 : Nat} (hb : b0 < T.c) {t : Int32} (ht : 1 ≤ t ∧ t ≤ 9) (he : T.x b0 ≠ 9)  : zq mX11_preaches (d + 20) [.ref 112, .int (nI b0), .int t] (n, sl, kd, I, L, Rf) (zpM n sl kd I L Rf (some (.int (s_preaches T (nI b0) t).1)) (s_preaches T (nI b0) t).2) := by
  intro f B
  refine ez_meth pn_X.2.2.2.2.2.2.2.2.2.2.2 (Nat.le_of_ble_eq_true rfl) ?_
  have hF := hM.F
  have hc7 := hO.c
  have hsp : s_preaches T (nI b0) t = (z_mn 9 (T.x b0 + t), zdo T (zup T.x b0 (z_mn 9 (T.x b0 + t)))) := (by unfold s_preaches; rw [if_pos (⟨z_bin hb hO.c, ht⟩), z_btn hb hO.c, if_neg he])
  rw [hsp]
  show ez_P _ _ _ _ _ _ 0 [(0, .ref 112), (1, .int (nI b0)), (2, .int t)] [] (n, sl, kd, I, L, Rf) _
  refine ez_aload_n (i := 0) dX11_preaches_0 rfl rfl ?_
  refine ez_iconst (v := 0) dX11_preaches_1 (by decide) ?_
  refine ez_pI dX11_preaches_2 plX11_89 (hF.lt (by decide)) (hF.lx (by decide)) (hF.kc (by decide) rfl) rfl rfl ?_
  refine ez_nmI (fun I1 hI1 => ?_)
  have hM1 : zM n kd I1 L Rf T := by rw [hI1]; exact hM.f9
  refine ez_aload_n (i := 0) dX11_preaches_5 rfl rfl ?_
  refine ez_iload_n (i := 1) dX11_preaches_6 rfl rfl ?_
  refine ez_iload_n (i := 2) dX11_preaches_7 rfl rfl ?_
  refine ez_callV (M1 := mX11_refusesPreaching) (rest := []) dX11_preaches_8 mlX11_265 mvX11_refusesPreaching rfl (hF.lt (by decide)) (hF.kc (by decide) rfl) (Nat.le_of_ble_eq_true rfl) rfl (y_X11_refusesPreaching_ok (d + 17) hM1 hO hb ht he) eb_rok ?_
  rintro _ _ ⟨rfl, rfl⟩
  show ez_P _ _ _ _ _ _ 11 [(0, .ref 112), (1, .int (nI b0)), (2, .int t)] (.int 0 :: []) _ _
  refine ez_istore_n (l' := [(3, .int 0), (0, .ref 112), (1, .int (nI b0)), (2, .int t)]) dX11_preaches_11 rfl (by decide) rfl ?_
  refine ez_iload_n (i := 3) dX11_preaches_12 rfl rfl ?_
  refine ez_if_ge (tgt := 18) dX11_preaches_13 (by decide) (fun c2 => ?_) (fun c2 => absurd (by decide) c2)
  refine ez_aload_n (i := 0) dX11_preaches_18 rfl rfl ?_
  refine ez_aload_n (i := 0) dX11_preaches_19 rfl rfl ?_
  refine ez_getR dX11_preaches_20 flX11_9 (hF.lt (by decide)) (hF.kc (by decide) rfl) (hF.pt 107 rfl) ?_
  refine ez_callV (M1 := mX11_remember) (rest := []) dX11_preaches_23 mlX11_246 mvX11_remember rfl (hF.lt (by decide)) (hF.kc (by decide) rfl) (Nat.le_of_ble_eq_true rfl) rfl (y_X11_remember (I := I1) (p := 113) (d + 18) hF (Or.inl rfl) (hF.ka (by decide) rfl) hM1.un.1 hO.unl) (eb_vok rfl) ?_
  rintro _ _ ⟨rfl, rfl⟩
  show ez_P _ _ _ _ _ _ 26 [(3, .int 0), (0, .ref 112), (1, .int (nI b0)), (2, .int t)] [] (n, sl, kd, z_rem I1 113 T.un.length, L, Rf) _
  refine ez_nmI (fun I3 hI3 => ?_)
  refine ez_aload_n (i := 0) dX11_preaches_26 rfl rfl ?_
  refine ez_getR dX11_preaches_27 flX11_9 (hF.lt (by decide)) (hF.kc (by decide) rfl) (hF.pt 107 rfl) ?_
  refine ez_iload_n (i := 1) dX11_preaches_30 rfl rfl ?_
  refine ez_bipush (v := 9) dX11_preaches_31 (by decide) ?_
  refine ez_aload_n (i := 0) dX11_preaches_33 rfl rfl ?_
  refine ez_getR dX11_preaches_34 flX11_9 (hF.lt (by decide)) (hF.kc (by decide) rfl) (hF.pt 107 rfl) ?_
  refine ez_iload_n (i := 1) dX11_preaches_37 rfl rfl ?_
  refine ez_iaN (k := b0) dX11_preaches_38 (hF.lt (by decide)) (hF.ka (by decide) rfl) (by omega) (by decide) ?_
  refine ez_topE (y := I 113 b0) (by rw [hI3, z_rem_ne (by decide) (by decide), hI1, z_set_ne (by decide)]) ?_
  refine ez_topE (y := T.x b0) (hM.x b0 (by have := hO.c; omega)) ?_
  refine ez_iload_n (i := 2) dX11_preaches_39 rfl rfl ?_
  refine ez_iadd dX11_preaches_40 ?_
  refine ez_min dX11_preaches_41 xmX11_197 (Nat.le_of_ble_eq_true rfl) ?_
  refine ez_topE (y := z_mn 9 (T.x b0 + t)) rfl ?_
  refine ez_isN (k := b0) dX11_preaches_44 (hF.lt (by decide)) (hF.lx (by decide)) (hF.ka (by decide) rfl) (by omega) (by decide) ?_
  refine ez_nmI (fun I4 hI4 => ?_)
  refine ez_aload_n (i := 0) dX11_preaches_45 rfl rfl ?_
  refine ez_getR dX11_preaches_46 flX11_9 (hF.lt (by decide)) (hF.kc (by decide) rfl) (hF.pt 107 rfl) ?_
  refine ez_iload_n (i := 1) dX11_preaches_49 rfl rfl ?_
  refine ez_iaN (k := b0) dX11_preaches_50 (hF.lt (by decide)) (hF.ka (by decide) rfl) (by omega) (by decide) ?_
  refine ez_topE (y := z_mn 9 (T.x b0 + t)) (by rw [hI4, z_set_at]) ?_
  refine ez_iret dX11_preaches_51 rfl rfl ?_
  have hJ : ∀ c, c ≠ 112 → c ≠ 113 → c ≠ 122 → I4 c = I c := fun c g112 g113 g122 => by rw [hI4, z_set_ne (by omega), hI3, z_rem_ne (by omega) (by omega), hI1, z_set_ne (by omega)]
  have hJf : ∀ k, k ≠ 9 → k ≠ 22 → I4 112 k = I 112 k := fun k g9 g22 => by rw [hI4, z_set_ne (by decide), hI3, z_rem_f (by omega), hI1, z_set_nk (by omega)]
  exact ⟨rfl, _, _, _, rfl, ⟨hM.F, hM.ru, (by rw [(hJf 18 (by decide) (by decide)), (hJ 119 (by decide) (by decide) (by decide))]; exact hM.rv), ⟨(hJf 6 (by decide) (by decide)).trans hM.tx.1, fun k hk => by rw [(hJ 116 (by decide) (by decide) (by decide))]; exact hM.tx.2 k hk⟩, ⟨(hJf 8 (by decide) (by decide)).trans hM.rw.1, hM.rw.2⟩, (by rw [(hJ 114 (by decide) (by decide) (by decide))]; exact hM.pr), ((hJf 4 (by decide) (by decide)).trans hM.wm), (by rw [(hJ 115 (by decide) (by decide) (by decide))]; exact hM.wd), ((hJf 1 (by decide) (by decide)).trans hM.c), (by rw [hI4]; refine z_upx ?_; rw [hI3, z_rem_ne (by decide) (by decide)]; exact hM1.x), (by rw [hI4, z_set_ne (by decide), z_set_ne (by decide), hI3]; exact z_rem_un (by decide) (by decide) hO.unl hM1.un hM1.x), (by rw [(hJf 38 (by decide) (by decide)), (hJ 134 (by decide) (by decide) (by decide)), (hJ 135 (by decide) (by decide) (by decide)), (hJ 136 (by decide) (by decide) (by decide))]; exact hM.kp), (by rw [(hJf 30 (by decide) (by decide)), (hJ 126 (by decide) (by decide) (by decide)), (hJ 127 (by decide) (by decide) (by decide)), (hJ 128 (by decide) (by decide) (by decide))]; exact hM.sn), (by rw [(hJf 34 (by decide) (by decide)), (hJ 130 (by decide) (by decide) (by decide)), (hJ 131 (by decide) (by decide) (by decide))]; exact hM.hd)⟩, (by rw [hI4, z_set_ne (by decide), hI3, z_rem_f (by decide), hI1, z_set_at]), fun c hc => ⟨hJ c (by omega) (by omega) (by omega), rfl, rfl⟩⟩
theorem y_X11_preaches {n : Nat} {sl : Nat × Nat} {kd : Nat → Nat × Nat} {I : Nat → Nat → Int32} {L : Nat → Nat → Int64} {Rf : Nat → Nat → Option Nat} (d : Nat) {T : zT} {H : Nat} (hM : zM n kd I L Rf T) (hO : zOk H T) (b : Int32) (t : Int32) : zq mX11_preaches (d + 20) [.ref 112, .int b, .int t] (n, sl, kd, I, L, Rf) (zpM n sl kd I L Rf (some (.int (s_preaches T b t).1)) (s_preaches T b t).2) := by
  by_cases hb0 : 0 ≤ b ∧ b < nI T.c
  · obtain ⟨b0, hb, rfl⟩ := pk_of (by have := hO.c; omega) hb0.1 hb0.2
    by_cases ht : 1 ≤ t ∧ t ≤ 9
    · by_cases he : T.x b0 = 9
      · exact y_X11_preaches_eq d hM hO hb ht he
      · exact y_X11_preaches_ok d hM hO hb ht he
    · exact y_X11_preaches_nx d hM hO hb ht
  · exact y_X11_preaches_no d hM hO hb0
theorem y_X11_refusesSail_nx {n : Nat} {sl : Nat × Nat} {kd : Nat → Nat × Nat} {I : Nat → Nat → Int32} {L : Nat → Nat → Int64} {Rf : Nat → Nat → Option Nat} (d : Nat) {T : zT} {H : Nat} (hM : zM n kd I L Rf T) (hO : zOk H T) {t : Int32} (ht : ¬ (0 ≤ t ∧ t ≤ 9))  : zq mX11_refusesSail (d + 2) [.ref 112, .int t] (n, sl, kd, I, L, Rf) (eb_r (-1) (n, sl, kd, I, L, Rf)) := by
  intro f B
  refine ez_meth pn_X.2.2.2.2.2.2.2.2.2.2.2 (Nat.le_of_ble_eq_true rfl) ?_
  have hF := hM.F
  have hc7 := hO.c
  show ez_P _ _ _ _ _ _ 0 [(0, .ref 112), (1, .int t)] [] (n, sl, kd, I, L, Rf) _
  refine ez_iload_n (i := 1) dX11_refusesSail_0 rfl rfl ?_
  refine ez_iconst (v := 0) dX11_refusesSail_1 (by decide) ?_
  refine ez_bipush (v := 9) dX11_refusesSail_2 (by decide) ?_
  refine ez_callS (M1 := mX11_in) (rest := []) dX11_refusesSail_4 mlX11_98 msX11_in rfl (Nat.le_of_ble_eq_true rfl) rfl (zq_b0 ht (zq_b (q_X11_in (d + 1) t 0 9) (n, sl, kd, I, L, Rf))) eb_rok ?_
  rintro _ _ ⟨rfl, rfl⟩
  show ez_P _ _ _ _ _ _ 7 [(0, .ref 112), (1, .int t)] (.int 0 :: []) _ _
  refine ez_if_ne (tgt := 12) dX11_refusesSail_7 (by decide) (fun c1 => absurd c1 (by decide)) (fun c1 => ?_)
  refine ez_iconst (v := (-1)) dX11_refusesSail_10 (by decide) ?_
  refine ez_iret dX11_refusesSail_11 rfl rfl ?_
  exact ⟨rfl, rfl⟩
theorem y_X11_sails_nx {n : Nat} {sl : Nat × Nat} {kd : Nat → Nat × Nat} {I : Nat → Nat → Int32} {L : Nat → Nat → Int64} {Rf : Nat → Nat → Option Nat} (d : Nat) {T : zT} {H : Nat} (hM : zM n kd I L Rf T) (hO : zOk H T) {t : Int32} (ht : ¬ (0 ≤ t ∧ t ≤ 9))  : zq mX11_sails (d + 20) [.ref 112, .int t] (n, sl, kd, I, L, Rf) (zpM n sl kd I L Rf (some (.int (s_sails T t).1)) (s_sails T t).2) := by
  intro f B
  refine ez_meth pn_X.2.2.2.2.2.2.2.2.2.2.2 (Nat.le_of_ble_eq_true rfl) ?_
  have hF := hM.F
  have hc7 := hO.c
  have hsp : s_sails T t = (-1, T) := (by unfold s_sails; rw [if_neg (fun e => ht e)])
  rw [hsp]
  show ez_P _ _ _ _ _ _ 0 [(0, .ref 112), (1, .int t)] [] (n, sl, kd, I, L, Rf) _
  refine ez_aload_n (i := 0) dX11_sails_0 rfl rfl ?_
  refine ez_iconst (v := 0) dX11_sails_1 (by decide) ?_
  refine ez_pI dX11_sails_2 plX11_89 (hF.lt (by decide)) (hF.lx (by decide)) (hF.kc (by decide) rfl) rfl rfl ?_
  refine ez_nmI (fun I1 hI1 => ?_)
  have hM1 : zM n kd I1 L Rf T := by rw [hI1]; exact hM.f9
  refine ez_aload_n (i := 0) dX11_sails_5 rfl rfl ?_
  refine ez_iload_n (i := 1) dX11_sails_6 rfl rfl ?_
  refine ez_callV (M1 := mX11_refusesSail) (rest := []) dX11_sails_7 mlX11_268 mvX11_refusesSail rfl (hF.lt (by decide)) (hF.kc (by decide) rfl) (Nat.le_of_ble_eq_true rfl) rfl (y_X11_refusesSail_nx (d + 17) hM1 hO ht) eb_rok ?_
  rintro _ _ ⟨rfl, rfl⟩
  show ez_P _ _ _ _ _ _ 10 [(0, .ref 112), (1, .int t)] (.int ((-1)) :: []) _ _
  refine ez_istore_n (l' := [(2, .int ((-1))), (0, .ref 112), (1, .int t)]) dX11_sails_10 rfl (by decide) rfl ?_
  refine ez_iload_n (i := 2) dX11_sails_11 rfl rfl ?_
  refine ez_if_ge (tgt := 17) dX11_sails_12 (by decide) (fun c2 => absurd c2 (by decide)) (fun c2 => ?_)
  refine ez_iload_n (i := 2) dX11_sails_15 rfl rfl ?_
  refine ez_iret dX11_sails_16 rfl rfl ?_
  have hJ : ∀ c, c ≠ 112 → I1 c = I c := fun c g112 => by rw [hI1, z_set_ne (by omega)]
  have hJf : ∀ k, k ≠ 9 → I1 112 k = I 112 k := fun k g9 => by rw [hI1, z_set_nk (by omega)]
  exact ⟨rfl, _, _, _, rfl, ⟨hM.F, hM.ru, (by rw [(hJf 18 (by decide)), (hJ 119 (by decide))]; exact hM.rv), ⟨(hJf 6 (by decide)).trans hM.tx.1, fun k hk => by rw [(hJ 116 (by decide))]; exact hM.tx.2 k hk⟩, ⟨(hJf 8 (by decide)).trans hM.rw.1, hM.rw.2⟩, (by rw [(hJ 114 (by decide))]; exact hM.pr), ((hJf 4 (by decide)).trans hM.wm), (by rw [(hJ 115 (by decide))]; exact hM.wd), ((hJf 1 (by decide)).trans hM.c), (by rw [(hJ 113 (by decide))]; exact hM.x), (by rw [(hJf 22 (by decide)), (hJ 122 (by decide))]; exact hM.un), (by rw [(hJf 38 (by decide)), (hJ 134 (by decide)), (hJ 135 (by decide)), (hJ 136 (by decide))]; exact hM.kp), (by rw [(hJf 30 (by decide)), (hJ 126 (by decide)), (hJ 127 (by decide)), (hJ 128 (by decide))]; exact hM.sn), (by rw [(hJf 34 (by decide)), (hJ 130 (by decide)), (hJ 131 (by decide))]; exact hM.hd)⟩, (by rw [hI1, z_set_at]), fun c hc => ⟨hJ c (by omega), rfl, rfl⟩⟩
theorem y_X11_refusesSail_eq {n : Nat} {sl : Nat × Nat} {kd : Nat → Nat × Nat} {I : Nat → Nat → Int32} {L : Nat → Nat → Int64} {Rf : Nat → Nat → Option Nat} (d : Nat) {T : zT} {H : Nat} (hM : zM n kd I L Rf T) (hO : zOk H T) {t : Int32} (ht : 0 ≤ t ∧ t ≤ 9) (he : T.x 21 = t)  : zq mX11_refusesSail (d + 2) [.ref 112, .int t] (n, sl, kd, I, L, Rf) (eb_r (-2) (n, sl, kd, I, L, Rf)) := by
  intro f B
  refine ez_meth pn_X.2.2.2.2.2.2.2.2.2.2.2 (Nat.le_of_ble_eq_true rfl) ?_
  have hF := hM.F
  have hc7 := hO.c
  show ez_P _ _ _ _ _ _ 0 [(0, .ref 112), (1, .int t)] [] (n, sl, kd, I, L, Rf) _
  refine ez_iload_n (i := 1) dX11_refusesSail_0 rfl rfl ?_
  refine ez_iconst (v := 0) dX11_refusesSail_1 (by decide) ?_
  refine ez_bipush (v := 9) dX11_refusesSail_2 (by decide) ?_
  refine ez_callS (M1 := mX11_in) (rest := []) dX11_refusesSail_4 mlX11_98 msX11_in rfl (Nat.le_of_ble_eq_true rfl) rfl (zq_b1 ht (zq_b (q_X11_in (d + 1) t 0 9) (n, sl, kd, I, L, Rf))) eb_rok ?_
  rintro _ _ ⟨rfl, rfl⟩
  show ez_P _ _ _ _ _ _ 7 [(0, .ref 112), (1, .int t)] (.int 1 :: []) _ _
  refine ez_if_ne (tgt := 12) dX11_refusesSail_7 (by decide) (fun c1 => ?_) (fun c1 => absurd (by decide) c1)
  refine ez_aload_n (i := 0) dX11_refusesSail_12 rfl rfl ?_
  refine ez_getR dX11_refusesSail_13 flX11_9 (hF.lt (by decide)) (hF.kc (by decide) rfl) (hF.pt 107 rfl) ?_
  refine ez_bipush (v := 21) dX11_refusesSail_16 (by decide) ?_
  refine ez_iaN (k := 21) dX11_refusesSail_18 (hF.lt (by decide)) (hF.ka (by decide) rfl) (by omega) (by decide) ?_
  refine ez_topE (y := T.x 21) (hM.x 21 (by decide)) ?_
  refine ez_iload_n (i := 1) dX11_refusesSail_19 rfl rfl ?_
  refine ez_icmp_ne (tgt := 28) dX11_refusesSail_20 (by decide) (fun c2 => absurd c2 (fun g => g he)) (fun c2 => ?_)
  refine ez_bipush (v := (-2)) dX11_refusesSail_23 (by decide) ?_
  refine ez_goto (tgt := 29) dX11_refusesSail_25 (by decide) ?_
  refine ez_iret dX11_refusesSail_29 rfl rfl ?_
  exact ⟨rfl, rfl⟩
theorem y_X11_sails_eq {n : Nat} {sl : Nat × Nat} {kd : Nat → Nat × Nat} {I : Nat → Nat → Int32} {L : Nat → Nat → Int64} {Rf : Nat → Nat → Option Nat} (d : Nat) {T : zT} {H : Nat} (hM : zM n kd I L Rf T) (hO : zOk H T) {t : Int32} (ht : 0 ≤ t ∧ t ≤ 9) (he : T.x 21 = t)  : zq mX11_sails (d + 20) [.ref 112, .int t] (n, sl, kd, I, L, Rf) (zpM n sl kd I L Rf (some (.int (s_sails T t).1)) (s_sails T t).2) := by
  intro f B
  refine ez_meth pn_X.2.2.2.2.2.2.2.2.2.2.2 (Nat.le_of_ble_eq_true rfl) ?_
  have hF := hM.F
  have hc7 := hO.c
  have hsp : s_sails T t = (-2, T) := (by unfold s_sails; rw [if_pos (ht), if_pos he])
  rw [hsp]
  show ez_P _ _ _ _ _ _ 0 [(0, .ref 112), (1, .int t)] [] (n, sl, kd, I, L, Rf) _
  refine ez_aload_n (i := 0) dX11_sails_0 rfl rfl ?_
  refine ez_iconst (v := 0) dX11_sails_1 (by decide) ?_
  refine ez_pI dX11_sails_2 plX11_89 (hF.lt (by decide)) (hF.lx (by decide)) (hF.kc (by decide) rfl) rfl rfl ?_
  refine ez_nmI (fun I1 hI1 => ?_)
  have hM1 : zM n kd I1 L Rf T := by rw [hI1]; exact hM.f9
  refine ez_aload_n (i := 0) dX11_sails_5 rfl rfl ?_
  refine ez_iload_n (i := 1) dX11_sails_6 rfl rfl ?_
  refine ez_callV (M1 := mX11_refusesSail) (rest := []) dX11_sails_7 mlX11_268 mvX11_refusesSail rfl (hF.lt (by decide)) (hF.kc (by decide) rfl) (Nat.le_of_ble_eq_true rfl) rfl (y_X11_refusesSail_eq (d + 17) hM1 hO ht he) eb_rok ?_
  rintro _ _ ⟨rfl, rfl⟩
  show ez_P _ _ _ _ _ _ 10 [(0, .ref 112), (1, .int t)] (.int ((-2)) :: []) _ _
  refine ez_istore_n (l' := [(2, .int ((-2))), (0, .ref 112), (1, .int t)]) dX11_sails_10 rfl (by decide) rfl ?_
  refine ez_iload_n (i := 2) dX11_sails_11 rfl rfl ?_
  refine ez_if_ge (tgt := 17) dX11_sails_12 (by decide) (fun c2 => absurd c2 (by decide)) (fun c2 => ?_)
  refine ez_iload_n (i := 2) dX11_sails_15 rfl rfl ?_
  refine ez_iret dX11_sails_16 rfl rfl ?_
  have hJ : ∀ c, c ≠ 112 → I1 c = I c := fun c g112 => by rw [hI1, z_set_ne (by omega)]
  have hJf : ∀ k, k ≠ 9 → I1 112 k = I 112 k := fun k g9 => by rw [hI1, z_set_nk (by omega)]
  exact ⟨rfl, _, _, _, rfl, ⟨hM.F, hM.ru, (by rw [(hJf 18 (by decide)), (hJ 119 (by decide))]; exact hM.rv), ⟨(hJf 6 (by decide)).trans hM.tx.1, fun k hk => by rw [(hJ 116 (by decide))]; exact hM.tx.2 k hk⟩, ⟨(hJf 8 (by decide)).trans hM.rw.1, hM.rw.2⟩, (by rw [(hJ 114 (by decide))]; exact hM.pr), ((hJf 4 (by decide)).trans hM.wm), (by rw [(hJ 115 (by decide))]; exact hM.wd), ((hJf 1 (by decide)).trans hM.c), (by rw [(hJ 113 (by decide))]; exact hM.x), (by rw [(hJf 22 (by decide)), (hJ 122 (by decide))]; exact hM.un), (by rw [(hJf 38 (by decide)), (hJ 134 (by decide)), (hJ 135 (by decide)), (hJ 136 (by decide))]; exact hM.kp), (by rw [(hJf 30 (by decide)), (hJ 126 (by decide)), (hJ 127 (by decide)), (hJ 128 (by decide))]; exact hM.sn), (by rw [(hJf 34 (by decide)), (hJ 130 (by decide)), (hJ 131 (by decide))]; exact hM.hd)⟩, (by rw [hI1, z_set_at]), fun c hc => ⟨hJ c (by omega), rfl, rfl⟩⟩
theorem y_X11_refusesSail_ok {n : Nat} {sl : Nat × Nat} {kd : Nat → Nat × Nat} {I : Nat → Nat → Int32} {L : Nat → Nat → Int64} {Rf : Nat → Nat → Option Nat} (d : Nat) {T : zT} {H : Nat} (hM : zM n kd I L Rf T) (hO : zOk H T) {t : Int32} (ht : 0 ≤ t ∧ t ≤ 9) (he : T.x 21 ≠ t)  : zq mX11_refusesSail (d + 2) [.ref 112, .int t] (n, sl, kd, I, L, Rf) (eb_r 0 (n, sl, kd, I, L, Rf)) := by
  intro f B
  refine ez_meth pn_X.2.2.2.2.2.2.2.2.2.2.2 (Nat.le_of_ble_eq_true rfl) ?_
  have hF := hM.F
  have hc7 := hO.c
  show ez_P _ _ _ _ _ _ 0 [(0, .ref 112), (1, .int t)] [] (n, sl, kd, I, L, Rf) _
  refine ez_iload_n (i := 1) dX11_refusesSail_0 rfl rfl ?_
  refine ez_iconst (v := 0) dX11_refusesSail_1 (by decide) ?_
  refine ez_bipush (v := 9) dX11_refusesSail_2 (by decide) ?_
  refine ez_callS (M1 := mX11_in) (rest := []) dX11_refusesSail_4 mlX11_98 msX11_in rfl (Nat.le_of_ble_eq_true rfl) rfl (zq_b1 ht (zq_b (q_X11_in (d + 1) t 0 9) (n, sl, kd, I, L, Rf))) eb_rok ?_
  rintro _ _ ⟨rfl, rfl⟩
  show ez_P _ _ _ _ _ _ 7 [(0, .ref 112), (1, .int t)] (.int 1 :: []) _ _
  refine ez_if_ne (tgt := 12) dX11_refusesSail_7 (by decide) (fun c1 => ?_) (fun c1 => absurd (by decide) c1)
  refine ez_aload_n (i := 0) dX11_refusesSail_12 rfl rfl ?_
  refine ez_getR dX11_refusesSail_13 flX11_9 (hF.lt (by decide)) (hF.kc (by decide) rfl) (hF.pt 107 rfl) ?_
  refine ez_bipush (v := 21) dX11_refusesSail_16 (by decide) ?_
  refine ez_iaN (k := 21) dX11_refusesSail_18 (hF.lt (by decide)) (hF.ka (by decide) rfl) (by omega) (by decide) ?_
  refine ez_topE (y := T.x 21) (hM.x 21 (by decide)) ?_
  refine ez_iload_n (i := 1) dX11_refusesSail_19 rfl rfl ?_
  refine ez_icmp_ne (tgt := 28) dX11_refusesSail_20 (by decide) (fun c2 => ?_) (fun c2 => absurd he c2)
  refine ez_iconst (v := 0) dX11_refusesSail_28 (by decide) ?_
  refine ez_iret dX11_refusesSail_29 rfl rfl ?_
  exact ⟨rfl, rfl⟩
theorem y_X11_sails_ok {n : Nat} {sl : Nat × Nat} {kd : Nat → Nat × Nat} {I : Nat → Nat → Int32} {L : Nat → Nat → Int64} {Rf : Nat → Nat → Option Nat} (d : Nat) {T : zT} {H : Nat} (hM : zM n kd I L Rf T) (hO : zOk H T) {t : Int32} (ht : 0 ≤ t ∧ t ≤ 9) (he : T.x 21 ≠ t)  : zq mX11_sails (d + 20) [.ref 112, .int t] (n, sl, kd, I, L, Rf) (zpM n sl kd I L Rf (some (.int (s_sails T t).1)) (s_sails T t).2) := by
  intro f B
  refine ez_meth pn_X.2.2.2.2.2.2.2.2.2.2.2 (Nat.le_of_ble_eq_true rfl) ?_
  have hF := hM.F
  have hc7 := hO.c
  have hsp : s_sails T t = (10 + T.x 21, zdo T (zup T.x 21 t)) := (by unfold s_sails; rw [if_pos (ht), if_neg he])
  rw [hsp]
  show ez_P _ _ _ _ _ _ 0 [(0, .ref 112), (1, .int t)] [] (n, sl, kd, I, L, Rf) _
  refine ez_aload_n (i := 0) dX11_sails_0 rfl rfl ?_
  refine ez_iconst (v := 0) dX11_sails_1 (by decide) ?_
  refine ez_pI dX11_sails_2 plX11_89 (hF.lt (by decide)) (hF.lx (by decide)) (hF.kc (by decide) rfl) rfl rfl ?_
  refine ez_nmI (fun I1 hI1 => ?_)
  have hM1 : zM n kd I1 L Rf T := by rw [hI1]; exact hM.f9
  refine ez_aload_n (i := 0) dX11_sails_5 rfl rfl ?_
  refine ez_iload_n (i := 1) dX11_sails_6 rfl rfl ?_
  refine ez_callV (M1 := mX11_refusesSail) (rest := []) dX11_sails_7 mlX11_268 mvX11_refusesSail rfl (hF.lt (by decide)) (hF.kc (by decide) rfl) (Nat.le_of_ble_eq_true rfl) rfl (y_X11_refusesSail_ok (d + 17) hM1 hO ht he) eb_rok ?_
  rintro _ _ ⟨rfl, rfl⟩
  show ez_P _ _ _ _ _ _ 10 [(0, .ref 112), (1, .int t)] (.int 0 :: []) _ _
  refine ez_istore_n (l' := [(2, .int 0), (0, .ref 112), (1, .int t)]) dX11_sails_10 rfl (by decide) rfl ?_
  refine ez_iload_n (i := 2) dX11_sails_11 rfl rfl ?_
  refine ez_if_ge (tgt := 17) dX11_sails_12 (by decide) (fun c2 => ?_) (fun c2 => absurd (by decide) c2)
  refine ez_aload_n (i := 0) dX11_sails_17 rfl rfl ?_
  refine ez_aload_n (i := 0) dX11_sails_18 rfl rfl ?_
  refine ez_getR dX11_sails_19 flX11_9 (hF.lt (by decide)) (hF.kc (by decide) rfl) (hF.pt 107 rfl) ?_
  refine ez_callV (M1 := mX11_remember) (rest := []) dX11_sails_22 mlX11_246 mvX11_remember rfl (hF.lt (by decide)) (hF.kc (by decide) rfl) (Nat.le_of_ble_eq_true rfl) rfl (y_X11_remember (I := I1) (p := 113) (d + 18) hF (Or.inl rfl) (hF.ka (by decide) rfl) hM1.un.1 hO.unl) (eb_vok rfl) ?_
  rintro _ _ ⟨rfl, rfl⟩
  show ez_P _ _ _ _ _ _ 25 [(2, .int 0), (0, .ref 112), (1, .int t)] [] (n, sl, kd, z_rem I1 113 T.un.length, L, Rf) _
  refine ez_nmI (fun I3 hI3 => ?_)
  refine ez_aload_n (i := 0) dX11_sails_25 rfl rfl ?_
  refine ez_getR dX11_sails_26 flX11_9 (hF.lt (by decide)) (hF.kc (by decide) rfl) (hF.pt 107 rfl) ?_
  refine ez_bipush (v := 21) dX11_sails_29 (by decide) ?_
  refine ez_iaN (k := 21) dX11_sails_31 (hF.lt (by decide)) (hF.ka (by decide) rfl) (by omega) (by decide) ?_
  refine ez_topE (y := I 113 21) (by rw [hI3, z_rem_ne (by decide) (by decide), hI1, z_set_ne (by decide)]) ?_
  refine ez_topE (y := T.x 21) (hM.x 21 (by decide)) ?_
  refine ez_istore_n (l' := [(3, .int (T.x 21)), (2, .int 0), (0, .ref 112), (1, .int t)]) dX11_sails_32 rfl (by decide) rfl ?_
  refine ez_aload_n (i := 0) dX11_sails_33 rfl rfl ?_
  refine ez_getR dX11_sails_34 flX11_9 (hF.lt (by decide)) (hF.kc (by decide) rfl) (hF.pt 107 rfl) ?_
  refine ez_bipush (v := 21) dX11_sails_37 (by decide) ?_
  refine ez_iload_n (i := 1) dX11_sails_39 rfl rfl ?_
  refine ez_isN (k := 21) dX11_sails_40 (hF.lt (by decide)) (hF.lx (by decide)) (hF.ka (by decide) rfl) (by omega) (by decide) ?_
  refine ez_nmI (fun I4 hI4 => ?_)
  refine ez_bipush (v := 10) dX11_sails_41 (by decide) ?_
  refine ez_iload_n (i := 3) dX11_sails_43 rfl rfl ?_
  refine ez_iadd dX11_sails_44 ?_
  refine ez_iret dX11_sails_45 rfl rfl ?_
  have hJ : ∀ c, c ≠ 112 → c ≠ 113 → c ≠ 122 → I4 c = I c := fun c g112 g113 g122 => by rw [hI4, z_set_ne (by omega), hI3, z_rem_ne (by omega) (by omega), hI1, z_set_ne (by omega)]
  have hJf : ∀ k, k ≠ 9 → k ≠ 22 → I4 112 k = I 112 k := fun k g9 g22 => by rw [hI4, z_set_ne (by decide), hI3, z_rem_f (by omega), hI1, z_set_nk (by omega)]
  exact ⟨rfl, _, _, _, rfl, ⟨hM.F, hM.ru, (by rw [(hJf 18 (by decide) (by decide)), (hJ 119 (by decide) (by decide) (by decide))]; exact hM.rv), ⟨(hJf 6 (by decide) (by decide)).trans hM.tx.1, fun k hk => by rw [(hJ 116 (by decide) (by decide) (by decide))]; exact hM.tx.2 k hk⟩, ⟨(hJf 8 (by decide) (by decide)).trans hM.rw.1, hM.rw.2⟩, (by rw [(hJ 114 (by decide) (by decide) (by decide))]; exact hM.pr), ((hJf 4 (by decide) (by decide)).trans hM.wm), (by rw [(hJ 115 (by decide) (by decide) (by decide))]; exact hM.wd), ((hJf 1 (by decide) (by decide)).trans hM.c), (by rw [hI4]; refine z_upx ?_; rw [hI3, z_rem_ne (by decide) (by decide)]; exact hM1.x), (by rw [hI4, z_set_ne (by decide), z_set_ne (by decide), hI3]; exact z_rem_un (by decide) (by decide) hO.unl hM1.un hM1.x), (by rw [(hJf 38 (by decide) (by decide)), (hJ 134 (by decide) (by decide) (by decide)), (hJ 135 (by decide) (by decide) (by decide)), (hJ 136 (by decide) (by decide) (by decide))]; exact hM.kp), (by rw [(hJf 30 (by decide) (by decide)), (hJ 126 (by decide) (by decide) (by decide)), (hJ 127 (by decide) (by decide) (by decide)), (hJ 128 (by decide) (by decide) (by decide))]; exact hM.sn), (by rw [(hJf 34 (by decide) (by decide)), (hJ 130 (by decide) (by decide) (by decide)), (hJ 131 (by decide) (by decide) (by decide))]; exact hM.hd)⟩, (by rw [hI4, z_set_ne (by decide), hI3, z_rem_f (by decide), hI1, z_set_at]), fun c hc => ⟨hJ c (by omega) (by omega) (by omega), rfl, rfl⟩⟩
theorem y_X11_sails {n : Nat} {sl : Nat × Nat} {kd : Nat → Nat × Nat} {I : Nat → Nat → Int32} {L : Nat → Nat → Int64} {Rf : Nat → Nat → Option Nat} (d : Nat) {T : zT} {H : Nat} (hM : zM n kd I L Rf T) (hO : zOk H T) (t : Int32) : zq mX11_sails (d + 20) [.ref 112, .int t] (n, sl, kd, I, L, Rf) (zpM n sl kd I L Rf (some (.int (s_sails T t).1)) (s_sails T t).2) := by
  by_cases ht : 0 ≤ t ∧ t ≤ 9
  · by_cases he : T.x 21 = t
    · exact y_X11_sails_eq d hM hO ht he
    · exact y_X11_sails_ok d hM hO ht he
  · exact y_X11_sails_nx d hM hO ht
