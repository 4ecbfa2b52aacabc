/-! the reference: brother, price, row, count, years -/
def zpMl (n : Nat) (sl : Nat × Nat) (kd : Nat → Nat × Nat) (I : Nat → Nat → Int32) (L : Nat → Nat → Int64) (Rf : Nat → Nat → Option Nat) (v : Option Value) (T : zT) : Option Value → eb_S → Prop := fun r τ => r = v ∧ ∃ I1 L1 R1, τ = (n, sl, kd, I1, L1, R1) ∧ zM n kd I1 L1 R1 T ∧ I1 112 9 = 1 ∧ ∀ c, c < 112 ∨ 136 < c → I1 c = I c ∧ L1 c = L c ∧ R1 c = Rf c
def v_brother (T : zT) (b : Nat) (w : Int32) : Int32 := if w = 0 then T.x b else if w = 1 then T.x (7 + b) else if w = 2 then 10 + T.x (14 + b) else zwt T T.x b
theorem y_X11_brother_0 {n : Nat} {sl : Nat × Nat} {kd : Nat → Nat × Nat} {I : Nat → Nat → Int32} {L : Nat → Nat → Int64} {Rf : Nat → Nat → Option Nat} (d : Nat) {T : zT} {H : Nat} (hM : zM n kd I L Rf T) (hO : zOk H T) (hH : H ≤ 1000000000) {b0 : Nat} (hb : b0 < T.c)  : zq mX11_brother (d + 400) [.ref 112, .int (nI b0), .int 0] (n, sl, kd, I, L, Rf) (zpM n sl kd I L Rf (some (.int (v_brother T b0 0))) T) := by
  have hF := hM.F; have hc7 := hO.c
  intro f B
  refine ez_meth pn_X.2.2.2.2.2.2.2.2.2.2.2 (Nat.le_of_ble_eq_true rfl) ?_
  show ez_P _ _ _ _ _ _ 0 [(0, .ref 112), (1, .int (nI b0)), (2, .int 0)] [] (n, sl, kd, I, L, Rf) _
  refine ez_aload_n (i := 0) dX11_brother_0 rfl rfl ?_
  refine ez_iconst (v := 0) dX11_brother_1 (by decide) ?_
  refine ez_pI dX11_brother_2 plX11_89 (hF.lt (by decide)) (hF.lx (by decide)) (hF.kc (by decide) rfl) rfl rfl ?_
  refine ez_nmI (fun I1 hI1 => ?_)
  have hQ2 : zQ n kd I L Rf I I1 L T (I 124) (I 112 25) := by rw [hI1]; exact zQ.start hM
  refine ez_aload_n (i := 0) dX11_brother_5 rfl rfl ?_
  refine ez_iload_n (i := 1) dX11_brother_6 rfl rfl ?_
  refine ez_callV (M1 := mX11_isOne) (rest := []) dX11_brother_7 mlX11_221 mvX11_isOne rfl (hF.lt (by decide)) (hF.kc (by decide) rfl) (Nat.le_of_ble_eq_true rfl) rfl (zq_b1 (z_bin hb hO.c) (y_X11_isOne (I := I1) (L := L) (d + 398) hF hQ2.M.c hO.c (nI b0))) eb_rok ?_
  rintro _ _ ⟨rfl, rfl⟩
  show ez_P _ _ _ _ _ _ 10 [(0, .ref 112), (1, .int (nI b0)), (2, .int 0)] (.int 1 :: []) _ _
  refine ez_if_eq (tgt := 22) dX11_brother_10 (by decide) (fun c3 => absurd c3 (by decide)) (fun c3 => ?_)
  refine ez_iload_n (i := 2) dX11_brother_13 rfl rfl ?_
  refine ez_iconst (v := 0) dX11_brother_14 (by decide) ?_
  refine ez_iconst (v := 3) dX11_brother_15 (by decide) ?_
  refine ez_callS (M1 := mX11_in) (rest := []) dX11_brother_16 mlX11_98 msX11_in rfl (Nat.le_of_ble_eq_true rfl) rfl (zq_b1 (by decide) (zq_b (q_X11_in (d + 399) 0 0 3) (n, sl, kd, I1, L, Rf))) eb_rok ?_
  rintro _ _ ⟨rfl, rfl⟩
  show ez_P _ _ _ _ _ _ 19 [(0, .ref 112), (1, .int (nI b0)), (2, .int 0)] (.int 1 :: []) _ _
  refine ez_if_ne (tgt := 27) dX11_brother_19 (by decide) (fun c4 => ?_) (fun c4 => absurd (by decide) c4)
  refine ez_iload_n (i := 2) dX11_brother_27 rfl rfl ?_
  refine ez_tin (off := 28) (tgt := 56) dX11_brother_28 (by decide) (by decide) rfl (by decide) ?_
  refine ez_aload_n (i := 0) dX11_brother_56 rfl rfl ?_
  refine ez_getR dX11_brother_57 flX11_9 (hF.lt (by decide)) (hF.kc (by decide) rfl) (hF.pt 107 rfl) ?_
  refine ez_iload_n (i := 1) dX11_brother_60 rfl rfl ?_
  refine ez_iaN (k := b0) dX11_brother_61 (hF.lt (by decide)) (hF.ka (by decide) rfl) (by omega) (by decide) ?_
  refine ez_topE (y := T.x b0) (hQ2.M.x _ (by omega)) ?_
  refine ez_iret dX11_brother_62 rfl rfl ?_
  exact hQ2.end
theorem y_X11_brother_1 {n : Nat} {sl : Nat × Nat} {kd : Nat → Nat × Nat} {I : Nat → Nat → Int32} {L : Nat → Nat → Int64} {Rf : Nat → Nat → Option Nat} (d : Nat) {T : zT} {H : Nat} (hM : zM n kd I L Rf T) (hO : zOk H T) (hH : H ≤ 1000000000) {b0 : Nat} (hb : b0 < T.c)  : zq mX11_brother (d + 400) [.ref 112, .int (nI b0), .int 1] (n, sl, kd, I, L, Rf) (zpM n sl kd I L Rf (some (.int (v_brother T b0 1))) T) := by
  have hF := hM.F; have hc7 := hO.c
  intro f B
  refine ez_meth pn_X.2.2.2.2.2.2.2.2.2.2.2 (Nat.le_of_ble_eq_true rfl) ?_
  show ez_P _ _ _ _ _ _ 0 [(0, .ref 112), (1, .int (nI b0)), (2, .int 1)] [] (n, sl, kd, I, L, Rf) _
  refine ez_aload_n (i := 0) dX11_brother_0 rfl rfl ?_
  refine ez_iconst (v := 0) dX11_brother_1 (by decide) ?_
  refine ez_pI dX11_brother_2 plX11_89 (hF.lt (by decide)) (hF.lx (by decide)) (hF.kc (by decide) rfl) rfl rfl ?_
  refine ez_nmI (fun I1 hI1 => ?_)
  have hQ2 : zQ n kd I L Rf I I1 L T (I 124) (I 112 25) := by rw [hI1]; exact zQ.start hM
  refine ez_aload_n (i := 0) dX11_brother_5 rfl rfl ?_
  refine ez_iload_n (i := 1) dX11_brother_6 rfl rfl ?_
  refine ez_callV (M1 := mX11_isOne) (rest := []) dX11_brother_7 mlX11_221 mvX11_isOne rfl (hF.lt (by decide)) (hF.kc (by decide) rfl) (Nat.le_of_ble_eq_true rfl) rfl (zq_b1 (z_bin hb hO.c) (y_X11_isOne (I := I1) (L := L) (d + 398) hF hQ2.M.c hO.c (nI b0))) eb_rok ?_
  rintro _ _ ⟨rfl, rfl⟩
  show ez_P _ _ _ _ _ _ 10 [(0, .ref 112), (1, .int (nI b0)), (2, .int 1)] (.int 1 :: []) _ _
  refine ez_if_eq (tgt := 22) dX11_brother_10 (by decide) (fun c3 => absurd c3 (by decide)) (fun c3 => ?_)
  refine ez_iload_n (i := 2) dX11_brother_13 rfl rfl ?_
  refine ez_iconst (v := 0) dX11_brother_14 (by decide) ?_
  refine ez_iconst (v := 3) dX11_brother_15 (by decide) ?_
  refine ez_callS (M1 := mX11_in) (rest := []) dX11_brother_16 mlX11_98 msX11_in rfl (Nat.le_of_ble_eq_true rfl) rfl (zq_b1 (by decide) (zq_b (q_X11_in (d + 399) 1 0 3) (n, sl, kd, I1, L, Rf))) eb_rok ?_
  rintro _ _ ⟨rfl, rfl⟩
  show ez_P _ _ _ _ _ _ 19 [(0, .ref 112), (1, .int (nI b0)), (2, .int 1)] (.int 1 :: []) _ _
  refine ez_if_ne (tgt := 27) dX11_brother_19 (by decide) (fun c4 => ?_) (fun c4 => absurd (by decide) c4)
  refine ez_iload_n (i := 2) dX11_brother_27 rfl rfl ?_
  refine ez_tin (off := 35) (tgt := 63) dX11_brother_28 (by decide) (by decide) rfl (by decide) ?_
  refine ez_aload_n (i := 0) dX11_brother_63 rfl rfl ?_
  refine ez_getR dX11_brother_64 flX11_9 (hF.lt (by decide)) (hF.kc (by decide) rfl) (hF.pt 107 rfl) ?_
  refine ez_bipush (v := 7) dX11_brother_67 (by decide) ?_
  refine ez_iload_n (i := 1) dX11_brother_69 rfl rfl ?_
  refine ez_iadd dX11_brother_70 ?_
  refine ez_topE (y := nI (7 + b0)) (nI_add _ _) ?_
  refine ez_iaN (k := (7 + b0)) dX11_brother_71 (hF.lt (by decide)) (hF.ka (by decide) rfl) (by omega) (by decide) ?_
  refine ez_topE (y := T.x (7 + b0)) (hQ2.M.x _ (by omega)) ?_
  refine ez_iret dX11_brother_72 rfl rfl ?_
  exact hQ2.end
theorem y_X11_brother_2 {n : Nat} {sl : Nat × Nat} {kd : Nat → Nat × Nat} {I : Nat → Nat → Int32} {L : Nat → Nat → Int64} {Rf : Nat → Nat → Option Nat} (d : Nat) {T : zT} {H : Nat} (hM : zM n kd I L Rf T) (hO : zOk H T) (hH : H ≤ 1000000000) {b0 : Nat} (hb : b0 < T.c)  : zq mX11_brother (d + 400) [.ref 112, .int (nI b0), .int 2] (n, sl, kd, I, L, Rf) (zpM n sl kd I L Rf (some (.int (v_brother T b0 2))) T) := by
  have hF := hM.F; have hc7 := hO.c
  intro f B
  refine ez_meth pn_X.2.2.2.2.2.2.2.2.2.2.2 (Nat.le_of_ble_eq_true rfl) ?_
  show ez_P _ _ _ _ _ _ 0 [(0, .ref 112), (1, .int (nI b0)), (2, .int 2)] [] (n, sl, kd, I, L, Rf) _
  refine ez_aload_n (i := 0) dX11_brother_0 rfl rfl ?_
  refine ez_iconst (v := 0) dX11_brother_1 (by decide) ?_
  refine ez_pI dX11_brother_2 plX11_89 (hF.lt (by decide)) (hF.lx (by decide)) (hF.kc (by decide) rfl) rfl rfl ?_
  refine ez_nmI (fun I1 hI1 => ?_)
  have hQ2 : zQ n kd I L Rf I I1 L T (I 124) (I 112 25) := by rw [hI1]; exact zQ.start hM
  refine ez_aload_n (i := 0) dX11_brother_5 rfl rfl ?_
  refine ez_iload_n (i := 1) dX11_brother_6 rfl rfl ?_
  refine ez_callV (M1 := mX11_isOne) (rest := []) dX11_brother_7 mlX11_221 mvX11_isOne rfl (hF.lt (by decide)) (hF.kc (by decide) rfl) (Nat.le_of_ble_eq_true rfl) rfl (zq_b1 (z_bin hb hO.c) (y_X11_isOne (I := I1) (L := L) (d + 398) hF hQ2.M.c hO.c (nI b0))) eb_rok ?_
  rintro _ _ ⟨rfl, rfl⟩
  show ez_P _ _ _ _ _ _ 10 [(0, .ref 112), (1, .int (nI b0)), (2, .int 2)] (.int 1 :: []) _ _
  refine ez_if_eq (tgt := 22) dX11_brother_10 (by decide) (fun c3 => absurd c3 (by decide)) (fun c3 => ?_)
  refine ez_iload_n (i := 2) dX11_brother_13 rfl rfl ?_
  refine ez_iconst (v := 0) dX11_brother_14 (by decide) ?_
  refine ez_iconst (v := 3) dX11_brother_15 (by decide) ?_
  refine ez_callS (M1 := mX11_in) (rest := []) dX11_brother_16 mlX11_98 msX11_in rfl (Nat.le_of_ble_eq_true rfl) rfl (zq_b1 (by decide) (zq_b (q_X11_in (d + 399) 2 0 3) (n, sl, kd, I1, L, Rf))) eb_rok ?_
  rintro _ _ ⟨rfl, rfl⟩
  show ez_P _ _ _ _ _ _ 19 [(0, .ref 112), (1, .int (nI b0)), (2, .int 2)] (.int 1 :: []) _ _
  refine ez_if_ne (tgt := 27) dX11_brother_19 (by decide) (fun c4 => ?_) (fun c4 => absurd (by decide) c4)
  refine ez_iload_n (i := 2) dX11_brother_27 rfl rfl ?_
  refine ez_tin (off := 45) (tgt := 73) dX11_brother_28 (by decide) (by decide) rfl (by decide) ?_
  refine ez_bipush (v := 10) dX11_brother_73 (by decide) ?_
  refine ez_aload_n (i := 0) dX11_brother_75 rfl rfl ?_
  refine ez_getR dX11_brother_76 flX11_9 (hF.lt (by decide)) (hF.kc (by decide) rfl) (hF.pt 107 rfl) ?_
  refine ez_bipush (v := 14) dX11_brother_79 (by decide) ?_
  refine ez_iload_n (i := 1) dX11_brother_81 rfl rfl ?_
  refine ez_iadd dX11_brother_82 ?_
  refine ez_topE (y := nI (14 + b0)) (nI_add _ _) ?_
  refine ez_iaN (k := (14 + b0)) dX11_brother_83 (hF.lt (by decide)) (hF.ka (by decide) rfl) (by omega) (by decide) ?_
  refine ez_topE (y := T.x (14 + b0)) (hQ2.M.x _ (by omega)) ?_
  refine ez_iadd dX11_brother_84 ?_
  refine ez_iret dX11_brother_85 rfl rfl ?_
  exact hQ2.end
theorem y_X11_brother_3 {n : Nat} {sl : Nat × Nat} {kd : Nat → Nat × Nat} {I : Nat → Nat → Int32} {L : Nat → Nat → Int64} {Rf : Nat → Nat → Option Nat} (d : Nat) {T : zT} {H : Nat} (hM : zM n kd I L Rf T) (hO : zOk H T) (hH : H ≤ 1000000000) {b0 : Nat} (hb : b0 < T.c)  : zq mX11_brother (d + 400) [.ref 112, .int (nI b0), .int 3] (n, sl, kd, I, L, Rf) (zpM n sl kd I L Rf (some (.int (v_brother T b0 3))) T) := by
  have hF := hM.F; have hc7 := hO.c
  intro f B
  refine ez_meth pn_X.2.2.2.2.2.2.2.2.2.2.2 (Nat.le_of_ble_eq_true rfl) ?_
  show ez_P _ _ _ _ _ _ 0 [(0, .ref 112), (1, .int (nI b0)), (2, .int 3)] [] (n, sl, kd, I, L, Rf) _
  refine ez_aload_n (i := 0) dX11_brother_0 rfl rfl ?_
  refine ez_iconst (v := 0) dX11_brother_1 (by decide) ?_
  refine ez_pI dX11_brother_2 plX11_89 (hF.lt (by decide)) (hF.lx (by decide)) (hF.kc (by decide) rfl) rfl rfl ?_
  refine ez_nmI (fun I1 hI1 => ?_)
  have hQ2 : zQ n kd I L Rf I I1 L T (I 124) (I 112 25) := by rw [hI1]; exact zQ.start hM
  refine ez_aload_n (i := 0) dX11_brother_5 rfl rfl ?_
  refine ez_iload_n (i := 1) dX11_brother_6 rfl rfl ?_
  refine ez_callV (M1 := mX11_isOne) (rest := []) dX11_brother_7 mlX11_221 mvX11_isOne rfl (hF.lt (by decide)) (hF.kc (by decide) rfl) (Nat.le_of_ble_eq_true rfl) rfl (zq_b1 (z_bin hb hO.c) (y_X11_isOne (I := I1) (L := L) (d + 398) hF hQ2.M.c hO.c (nI b0))) eb_rok ?_
  rintro _ _ ⟨rfl, rfl⟩
  show ez_P _ _ _ _ _ _ 10 [(0, .ref 112), (1, .int (nI b0)), (2, .int 3)] (.int 1 :: []) _ _
  refine ez_if_eq (tgt := 22) dX11_brother_10 (by decide) (fun c3 => absurd c3 (by decide)) (fun c3 => ?_)
  refine ez_iload_n (i := 2) dX11_brother_13 rfl rfl ?_
  refine ez_iconst (v := 0) dX11_brother_14 (by decide) ?_
  refine ez_iconst (v := 3) dX11_brother_15 (by decide) ?_
  refine ez_callS (M1 := mX11_in) (rest := []) dX11_brother_16 mlX11_98 msX11_in rfl (Nat.le_of_ble_eq_true rfl) rfl (zq_b1 (by decide) (zq_b (q_X11_in (d + 399) 3 0 3) (n, sl, kd, I1, L, Rf))) eb_rok ?_
  rintro _ _ ⟨rfl, rfl⟩
  show ez_P _ _ _ _ _ _ 19 [(0, .ref 112), (1, .int (nI b0)), (2, .int 3)] (.int 1 :: []) _ _
  refine ez_if_ne (tgt := 27) dX11_brother_19 (by decide) (fun c4 => ?_) (fun c4 => absurd (by decide) c4)
  refine ez_iload_n (i := 2) dX11_brother_27 rfl rfl ?_
  refine ez_tout (tgt := 86) dX11_brother_28 (by decide) (by decide) ?_
  refine ez_aload_n (i := 0) dX11_brother_86 rfl rfl ?_
  refine ez_aload_n (i := 0) dX11_brother_87 rfl rfl ?_
  refine ez_getR dX11_brother_88 flX11_9 (hF.lt (by decide)) (hF.kc (by decide) rfl) (hF.pt 107 rfl) ?_
  refine ez_iload_n (i := 1) dX11_brother_91 rfl rfl ?_
  refine ez_callV (M1 := mX11_weightOf) (rest := []) dX11_brother_92 mlX11_204 mvX11_weightOf rfl (hF.lt (by decide)) (hF.kc (by decide) rfl) (Nat.le_of_ble_eq_true rfl) rfl (y_wt (I := I1) (L := L) (d + 93) hQ2.M.W hc7 (Or.inl rfl) hQ2.M.x hO.x (by omega) (by omega)) eb_rok ?_
  rintro _ _ ⟨rfl, rfl⟩
  show ez_P _ _ _ _ _ _ 95 [(0, .ref 112), (1, .int (nI b0)), (2, .int 3)] (.int (zwt T T.x b0) :: []) _ _
  refine ez_iret dX11_brother_95 rfl rfl ?_
  exact hQ2.end
theorem y_X11_brother {n : Nat} {sl : Nat × Nat} {kd : Nat → Nat × Nat} {I : Nat → Nat → Int32} {L : Nat → Nat → Int64} {Rf : Nat → Nat → Option Nat} (d : Nat) {T : zT} {H : Nat} (hM : zM n kd I L Rf T) (hO : zOk H T) (hH : H ≤ 1000000000) {b0 : Nat} (hb : b0 < T.c) {w : Int32} (hw : 0 ≤ w ∧ w ≤ 3) : zq mX11_brother (d + 400) [.ref 112, .int (nI b0), .int w] (n, sl, kd, I, L, Rf) (zpM n sl kd I L Rf (some (.int (v_brother T b0 w))) T) := by
  obtain ⟨q, _, hq, rfl⟩ := z_pk1 (lo := 0) (N := 3) hw (by decide) (by decide)
  rcases (show q = 0 ∨ q = 1 ∨ q = 2 ∨ q = 3 by omega) with rfl | rfl | rfl | rfl
  · exact y_X11_brother_0 d hM hO hH hb
  · exact y_X11_brother_1 d hM hO hH hb
  · exact y_X11_brother_2 d hM hO hH hb
  · exact y_X11_brother_3 d hM hO hH hb
theorem y_X11_brother_no {n : Nat} {sl : Nat × Nat} {kd : Nat → Nat × Nat} {I : Nat → Nat → Int32} {L : Nat → Nat → Int64} {Rf : Nat → Nat → Option Nat} (d : Nat) {T : zT} {H : Nat} (hM : zM n kd I L Rf T) (hO : zOk H T) (hH : H ≤ 1000000000) {b : Int32} (hn : ¬ (0 ≤ b ∧ b < nI T.c)) (w : Int32)  : zq mX11_brother (d + 400) [.ref 112, .int b, .int w] (n, sl, kd, I, L, Rf) (zpMl n sl kd I L Rf (some (.int 0)) T) := by
  have hF := hM.F; have hc7 := hO.c
  intro f B
  refine ez_meth pn_X.2.2.2.2.2.2.2.2.2.2.2 (Nat.le_of_ble_eq_true rfl) ?_
  show ez_P _ _ _ _ _ _ 0 [(0, .ref 112), (1, .int b), (2, .int w)] [] (n, sl, kd, I, L, Rf) _
  refine ez_aload_n (i := 0) dX11_brother_0 rfl rfl ?_
  refine ez_iconst (v := 0) dX11_brother_1 (by decide) ?_
  refine ez_pI dX11_brother_2 plX11_89 (hF.lt (by decide)) (hF.lx (by decide)) (hF.kc (by decide) rfl) rfl rfl ?_
  refine ez_nmI (fun I1 hI1 => ?_)
  have hQ2 : zQ n kd I L Rf I I1 L T (I 124) (I 112 25) := by rw [hI1]; exact zQ.start hM
  refine ez_aload_n (i := 0) dX11_brother_5 rfl rfl ?_
  refine ez_iload_n (i := 1) dX11_brother_6 rfl rfl ?_
  refine ez_callV (M1 := mX11_isOne) (rest := []) dX11_brother_7 mlX11_221 mvX11_isOne rfl (hF.lt (by decide)) (hF.kc (by decide) rfl) (Nat.le_of_ble_eq_true rfl) rfl (zq_b0 hn (y_X11_isOne (I := I1) (L := L) (d + 398) hF hQ2.M.c hO.c b)) eb_rok ?_
  rintro _ _ ⟨rfl, rfl⟩
  show ez_P _ _ _ _ _ _ 10 [(0, .ref 112), (1, .int b), (2, .int w)] (.int 0 :: []) _ _
  refine ez_if_eq (tgt := 22) dX11_brother_10 (by decide) (fun c3 => ?_) (fun c3 => absurd (by decide) c3)
  refine ez_aload_n (i := 0) dX11_brother_22 rfl rfl ?_
  refine ez_callV (M1 := mX11_lost) (rest := []) dX11_brother_23 mlX11_225 mvX11_lost rfl (hF.lt (by decide)) (hF.kc (by decide) rfl) (Nat.le_of_ble_eq_true rfl) rfl (y_X11_lost (I := I1) (L := L) (d + 399) hF) (fun _ _ g => Or.inl (by rw [g.1])) ?_
  rintro _ _ ⟨rfl, rfl⟩
  refine ez_nmI (fun I4 hI4 => ?_)
  show ez_P _ _ _ _ _ _ 26 [(0, .ref 112), (1, .int b), (2, .int w)] (.int 0 :: []) (n, sl, kd, I4, L, Rf) _
  refine ez_iret dX11_brother_26 rfl rfl ?_
  exact ⟨rfl, _, _, _, rfl, (by rw [hI4]; exact hQ2.M.f9), (by rw [hI4, z_set_at]), fun c hc => ⟨by rw [hI4, z_set_ne (by omega)]; exact (hQ2.f c hc).1, (hQ2.f c hc).2, rfl⟩⟩
theorem y_X11_brother_nx {n : Nat} {sl : Nat × Nat} {kd : Nat → Nat × Nat} {I : Nat → Nat → Int32} {L : Nat → Nat → Int64} {Rf : Nat → Nat → Option Nat} (d : Nat) {T : zT} {H : Nat} (hM : zM n kd I L Rf T) (hO : zOk H T) (hH : H ≤ 1000000000) {b w : Int32} (hb : 0 ≤ b ∧ b < nI T.c) (hn : ¬ (0 ≤ w ∧ w ≤ 3))  : zq mX11_brother (d + 400) [.ref 112, .int b, .int w] (n, sl, kd, I, L, Rf) (zpMl n sl kd I L Rf (some (.int 0)) T) := by
  have hF := hM.F; have hc7 := hO.c
  intro f B
  refine ez_meth pn_X.2.2.2.2.2.2.2.2.2.2.2 (Nat.le_of_ble_eq_true rfl) ?_
  show ez_P _ _ _ _ _ _ 0 [(0, .ref 112), (1, .int b), (2, .int w)] [] (n, sl, kd, I, L, Rf) _
  refine ez_aload_n (i := 0) dX11_brother_0 rfl rfl ?_
  refine ez_iconst (v := 0) dX11_brother_1 (by decide) ?_
  refine ez_pI dX11_brother_2 plX11_89 (hF.lt (by decide)) (hF.lx (by decide)) (hF.kc (by decide) rfl) rfl rfl ?_
  refine ez_nmI (fun I1 hI1 => ?_)
  have hQ2 : zQ n kd I L Rf I I1 L T (I 124) (I 112 25) := by rw [hI1]; exact zQ.start hM
  refine ez_aload_n (i := 0) dX11_brother_5 rfl rfl ?_
  refine ez_iload_n (i := 1) dX11_brother_6 rfl rfl ?_
  refine ez_callV (M1 := mX11_isOne) (rest := []) dX11_brother_7 mlX11_221 mvX11_isOne rfl (hF.lt (by decide)) (hF.kc (by decide) rfl) (Nat.le_of_ble_eq_true rfl) rfl (zq_b1 hb (y_X11_isOne (I := I1) (L := L) (d + 398) hF hQ2.M.c hO.c b)) eb_rok ?_
  rintro _ _ ⟨rfl, rfl⟩
  show ez_P _ _ _ _ _ _ 10 [(0, .ref 112), (1, .int b), (2, .int w)] (.int 1 :: []) _ _
  refine ez_if_eq (tgt := 22) dX11_brother_10 (by decide) (fun c3 => absurd c3 (by decide)) (fun c3 => ?_)
  refine ez_iload_n (i := 2) dX11_brother_13 rfl rfl ?_
  refine ez_iconst (v := 0) dX11_brother_14 (by decide) ?_
  refine ez_iconst (v := 3) dX11_brother_15 (by decide) ?_
  refine ez_callS (M1 := mX11_in) (rest := []) dX11_brother_16 mlX11_98 msX11_in rfl (Nat.le_of_ble_eq_true rfl) rfl (zq_b0 hn (zq_b (q_X11_in (d + 399) w 0 3) (n, sl, kd, I1, L, Rf))) eb_rok ?_
  rintro _ _ ⟨rfl, rfl⟩
  show ez_P _ _ _ _ _ _ 19 [(0, .ref 112), (1, .int b), (2, .int w)] (.int 0 :: []) _ _
  refine ez_if_ne (tgt := 27) dX11_brother_19 (by decide) (fun c4 => absurd c4 (by decide)) (fun c4 => ?_)
  refine ez_aload_n (i := 0) dX11_brother_22 rfl rfl ?_
  refine ez_callV (M1 := mX11_lost) (rest := []) dX11_brother_23 mlX11_225 mvX11_lost rfl (hF.lt (by decide)) (hF.kc (by decide) rfl) (Nat.le_of_ble_eq_true rfl) rfl (y_X11_lost (I := I1) (L := L) (d + 399) hF) (fun _ _ g => Or.inl (by rw [g.1])) ?_
  rintro _ _ ⟨rfl, rfl⟩
  refine ez_nmI (fun I5 hI5 => ?_)
  show ez_P _ _ _ _ _ _ 26 [(0, .ref 112), (1, .int b), (2, .int w)] (.int 0 :: []) (n, sl, kd, I5, L, Rf) _
  refine ez_iret dX11_brother_26 rfl rfl ?_
  exact ⟨rfl, _, _, _, rfl, (by rw [hI5]; exact hQ2.M.f9), (by rw [hI5, z_set_at]), fun c hc => ⟨by rw [hI5, z_set_ne (by omega)]; exact (hQ2.f c hc).1, (hQ2.f c hc).2, rfl⟩⟩
theorem z_in8 {c : Nat} (hc : c < 1000) {b : Int32} : (0 ≤ b ∧ b ≤ nI c - 1) ↔ (0 ≤ b ∧ b < nI c) := by
  have h1 : (nI c).toInt = c := nI_toInt (by omega)
  have h2 : (nI c - 1).toInt = (c : Int) - 1 := by
    rw [Int32.toInt_sub, h1, show (1 : Int32).toInt = 1 from rfl]
    exact Int.bmod_eq_of_le (by omega) (by omega)
  simp only [Int32.lt_iff_toInt_lt, Int32.le_iff_toInt_le, h1, h2]
  constructor <;> rintro ⟨h3, h4⟩ <;> exact ⟨h3, by omega⟩
theorem z_sum_cg {t u : Nat → Int32} {c : Nat} (h : ∀ k, k < c → t k = u k) : z_sum t c = z_sum u c := by
  induction c with
  | zero => rfl
  | succ c ih => rw [z_sum, z_sum, ih (fun k hk => h k (by omega)), h c (by omega)]
theorem y_gvT {n : Nat} {sl : Nat × Nat} {kd : Nat → Nat × Nat} {I : Nat → Nat → Int32} {L : Nat → Nat → Int64} {Rf : Nat → Nat → Option Nat} (d : Nat) {T : zT} (hM : zM n kd I L Rf T) (hc7 : T.c ≤ 7) : zq mX11_gravity d [.ref 112] (n, sl, kd, I, L, Rf) (eb_r (z_sum T.x T.c) (n, sl, kd, I, L, Rf)) := by
  have h := y_X11_gravity (sl := sl) (L := L) d hM.F hM.c hc7
  rw [z_sum_cg (fun k hk => hM.x k (by omega))] at h
  exact h
def s_count (T : zT) (w : Int32) : Int32 × zT := (if w = 0 then nI T.c else if w = 1 then T.x 25 else if w = 2 then T.x 21 else if w = 3 then 100 + T.x 22 else if w = 4 then T.x 23 else if w = 5 then T.x 24 else if w = 6 then 10 + zhw T T.x else if w = 7 then z_sum T.x T.c else if w = 8 then zws T (zal T) T.c else if w = 9 then nI T.sn.length else if w = 10 then nI T.hd.length else if w = 11 then nI T.un.length else if w = 12 then nI T.rw.length else if w = 13 then nI T.tx.length else -1, T)
theorem y_X11_count_0 {n : Nat} {sl : Nat × Nat} {kd : Nat → Nat × Nat} {I : Nat → Nat → Int32} {L : Nat → Nat → Int64} {Rf : Nat → Nat → Option Nat} (d : Nat) {T : zT} {H : Nat} (hM : zM n kd I L Rf T) (hO : zOk H T) (hH : H ≤ 1000000000)  : zq mX11_count (d + 400) [.ref 112, .int 0] (n, sl, kd, I, L, Rf) (zpM n sl kd I L Rf (some (.int (s_count T 0).1)) (s_count T 0).2) := by
  have hF := hM.F; have hc7 := hO.c
  have hsp : s_count T 0 = (nI T.c, T) := (by unfold s_count; rw [if_pos rfl])
  rw [hsp]
  intro f B
  refine ez_meth pn_X.2.2.2.2.2.2.2.2.2.2.2 (Nat.le_of_ble_eq_true rfl) ?_
  show ez_P _ _ _ _ _ _ 0 [(0, .ref 112), (1, .int 0)] [] (n, sl, kd, I, L, Rf) _
  refine ez_aload_n (i := 0) dX11_count_0 rfl rfl ?_
  refine ez_iconst (v := 0) dX11_count_1 (by decide) ?_
  refine ez_pI dX11_count_2 plX11_89 (hF.lt (by decide)) (hF.lx (by decide)) (hF.kc (by decide) rfl) rfl rfl ?_
  refine ez_nmI (fun I1 hI1 => ?_)
  have hQ2 : zQ n kd I L Rf I I1 L T (I 124) (I 112 25) := by rw [hI1]; exact zQ.start hM
  refine ez_iload_n (i := 1) dX11_count_5 rfl rfl ?_
  refine ez_tin (off := 70) (tgt := 76) dX11_count_6 (by decide) (by decide) rfl (by decide) ?_
  refine ez_aload_n (i := 0) dX11_count_76 rfl rfl ?_
  refine ez_getI dX11_count_77 flX11_95 (hF.lt (by decide)) (hF.kc (by decide) rfl) ?_
  refine ez_topE (y := nI T.c) hQ2.M.c ?_
  refine ez_iret dX11_count_80 rfl rfl ?_
  exact hQ2.end
theorem y_X11_count_1 {n : Nat} {sl : Nat × Nat} {kd : Nat → Nat × Nat} {I : Nat → Nat → Int32} {L : Nat → Nat → Int64} {Rf : Nat → Nat → Option Nat} (d : Nat) {T : zT} {H : Nat} (hM : zM n kd I L Rf T) (hO : zOk H T) (hH : H ≤ 1000000000)  : zq mX11_count (d + 400) [.ref 112, .int 1] (n, sl, kd, I, L, Rf) (zpM n sl kd I L Rf (some (.int (s_count T 1).1)) (s_count T 1).2) := by
  have hF := hM.F; have hc7 := hO.c
  have hsp : s_count T 1 = (T.x 25, T) := (by unfold s_count; rw [if_neg (by decide), if_pos rfl])
  rw [hsp]
  intro f B
  refine ez_meth pn_X.2.2.2.2.2.2.2.2.2.2.2 (Nat.le_of_ble_eq_true rfl) ?_
  show ez_P _ _ _ _ _ _ 0 [(0, .ref 112), (1, .int 1)] [] (n, sl, kd, I, L, Rf) _
  refine ez_aload_n (i := 0) dX11_count_0 rfl rfl ?_
  refine ez_iconst (v := 0) dX11_count_1 (by decide) ?_
  refine ez_pI dX11_count_2 plX11_89 (hF.lt (by decide)) (hF.lx (by decide)) (hF.kc (by decide) rfl) rfl rfl ?_
  refine ez_nmI (fun I1 hI1 => ?_)
  have hQ2 : zQ n kd I L Rf I I1 L T (I 124) (I 112 25) := by rw [hI1]; exact zQ.start hM
  refine ez_iload_n (i := 1) dX11_count_5 rfl rfl ?_
  refine ez_tin (off := 75) (tgt := 81) dX11_count_6 (by decide) (by decide) rfl (by decide) ?_
  refine ez_aload_n (i := 0) dX11_count_81 rfl rfl ?_
  refine ez_getR dX11_count_82 flX11_9 (hF.lt (by decide)) (hF.kc (by decide) rfl) (hF.pt 107 rfl) ?_
  refine ez_bipush (v := 25) dX11_count_85 (by decide) ?_
  refine ez_iaN (k := 25) dX11_count_87 (hF.lt (by decide)) (hF.ka (by decide) rfl) (by omega) (by decide) ?_
  refine ez_topE (y := T.x 25) (hQ2.M.x _ (by decide)) ?_
  refine ez_iret dX11_count_88 rfl rfl ?_
  exact hQ2.end
theorem y_X11_count_2 {n : Nat} {sl : Nat × Nat} {kd : Nat → Nat × Nat} {I : Nat → Nat → Int32} {L : Nat → Nat → Int64} {Rf : Nat → Nat → Option Nat} (d : Nat) {T : zT} {H : Nat} (hM : zM n kd I L Rf T) (hO : zOk H T) (hH : H ≤ 1000000000)  : zq mX11_count (d + 400) [.ref 112, .int 2] (n, sl, kd, I, L, Rf) (zpM n sl kd I L Rf (some (.int (s_count T 2).1)) (s_count T 2).2) := by
  have hF := hM.F; have hc7 := hO.c
  have hsp : s_count T 2 = (T.x 21, T) := (by unfold s_count; rw [if_neg (by decide), if_neg (by decide), if_pos rfl])
  rw [hsp]
  intro f B
  refine ez_meth pn_X.2.2.2.2.2.2.2.2.2.2.2 (Nat.le_of_ble_eq_true rfl) ?_
  show ez_P _ _ _ _ _ _ 0 [(0, .ref 112), (1, .int 2)] [] (n, sl, kd, I, L, Rf) _
  refine ez_aload_n (i := 0) dX11_count_0 rfl rfl ?_
  refine ez_iconst (v := 0) dX11_count_1 (by decide) ?_
  refine ez_pI dX11_count_2 plX11_89 (hF.lt (by decide)) (hF.lx (by decide)) (hF.kc (by decide) rfl) rfl rfl ?_
  refine ez_nmI (fun I1 hI1 => ?_)
  have hQ2 : zQ n kd I L Rf I I1 L T (I 124) (I 112 25) := by rw [hI1]; exact zQ.start hM
  refine ez_iload_n (i := 1) dX11_count_5 rfl rfl ?_
  refine ez_tin (off := 83) (tgt := 89) dX11_count_6 (by decide) (by decide) rfl (by decide) ?_
  refine ez_aload_n (i := 0) dX11_count_89 rfl rfl ?_
  refine ez_getR dX11_count_90 flX11_9 (hF.lt (by decide)) (hF.kc (by decide) rfl) (hF.pt 107 rfl) ?_
  refine ez_bipush (v := 21) dX11_count_93 (by decide) ?_
  refine ez_iaN (k := 21) dX11_count_95 (hF.lt (by decide)) (hF.ka (by decide) rfl) (by omega) (by decide) ?_
  refine ez_topE (y := T.x 21) (hQ2.M.x _ (by decide)) ?_
  refine ez_iret dX11_count_96 rfl rfl ?_
  exact hQ2.end
theorem y_X11_count_3 {n : Nat} {sl : Nat × Nat} {kd : Nat → Nat × Nat} {I : Nat → Nat → Int32} {L : Nat → Nat → Int64} {Rf : Nat → Nat → Option Nat} (d : Nat) {T : zT} {H : Nat} (hM : zM n kd I L Rf T) (hO : zOk H T) (hH : H ≤ 1000000000)  : zq mX11_count (d + 400) [.ref 112, .int 3] (n, sl, kd, I, L, Rf) (zpM n sl kd I L Rf (some (.int (s_count T 3).1)) (s_count T 3).2) := by
  have hF := hM.F; have hc7 := hO.c
  have hsp : s_count T 3 = (100 + T.x 22, T) := (by unfold s_count; rw [if_neg (by decide), if_neg (by decide), if_neg (by decide), if_pos rfl])
  rw [hsp]
  intro f B
  refine ez_meth pn_X.2.2.2.2.2.2.2.2.2.2.2 (Nat.le_of_ble_eq_true rfl) ?_
  show ez_P _ _ _ _ _ _ 0 [(0, .ref 112), (1, .int 3)] [] (n, sl, kd, I, L, Rf) _
  refine ez_aload_n (i := 0) dX11_count_0 rfl rfl ?_
  refine ez_iconst (v := 0) dX11_count_1 (by decide) ?_
  refine ez_pI dX11_count_2 plX11_89 (hF.lt (by decide)) (hF.lx (by decide)) (hF.kc (by decide) rfl) rfl rfl ?_
  refine ez_nmI (fun I1 hI1 => ?_)
  have hQ2 : zQ n kd I L Rf I I1 L T (I 124) (I 112 25) := by rw [hI1]; exact zQ.start hM
  refine ez_iload_n (i := 1) dX11_count_5 rfl rfl ?_
  refine ez_tin (off := 91) (tgt := 97) dX11_count_6 (by decide) (by decide) rfl (by decide) ?_
  refine ez_bipush (v := 100) dX11_count_97 (by decide) ?_
  refine ez_aload_n (i := 0) dX11_count_99 rfl rfl ?_
  refine ez_getR dX11_count_100 flX11_9 (hF.lt (by decide)) (hF.kc (by decide) rfl) (hF.pt 107 rfl) ?_
  refine ez_bipush (v := 22) dX11_count_103 (by decide) ?_
  refine ez_iaN (k := 22) dX11_count_105 (hF.lt (by decide)) (hF.ka (by decide) rfl) (by omega) (by decide) ?_
  refine ez_topE (y := T.x 22) (hQ2.M.x _ (by decide)) ?_
  refine ez_iadd dX11_count_106 ?_
  refine ez_iret dX11_count_107 rfl rfl ?_
  exact hQ2.end
theorem y_X11_count_4 {n : Nat} {sl : Nat × Nat} {kd : Nat → Nat × Nat} {I : Nat → Nat → Int32} {L : Nat → Nat → Int64} {Rf : Nat → Nat → Option Nat} (d : Nat) {T : zT} {H : Nat} (hM : zM n kd I L Rf T) (hO : zOk H T) (hH : H ≤ 1000000000)  : zq mX11_count (d + 400) [.ref 112, .int 4] (n, sl, kd, I, L, Rf) (zpM n sl kd I L Rf (some (.int (s_count T 4).1)) (s_count T 4).2) := by
  have hF := hM.F; have hc7 := hO.c
  have hsp : s_count T 4 = (T.x 23, T) := (by unfold s_count; rw [if_neg (by decide), if_neg (by decide), if_neg (by decide), if_neg (by decide), if_pos rfl])
  rw [hsp]
  intro f B
  refine ez_meth pn_X.2.2.2.2.2.2.2.2.2.2.2 (Nat.le_of_ble_eq_true rfl) ?_
  show ez_P _ _ _ _ _ _ 0 [(0, .ref 112), (1, .int 4)] [] (n, sl, kd, I, L, Rf) _
  refine ez_aload_n (i := 0) dX11_count_0 rfl rfl ?_
  refine ez_iconst (v := 0) dX11_count_1 (by decide) ?_
  refine ez_pI dX11_count_2 plX11_89 (hF.lt (by decide)) (hF.lx (by decide)) (hF.kc (by decide) rfl) rfl rfl ?_
  refine ez_nmI (fun I1 hI1 => ?_)
  have hQ2 : zQ n kd I L Rf I I1 L T (I 124) (I 112 25) := by rw [hI1]; exact zQ.start hM
  refine ez_iload_n (i := 1) dX11_count_5 rfl rfl ?_
  refine ez_tin (off := 102) (tgt := 108) dX11_count_6 (by decide) (by decide) rfl (by decide) ?_
  refine ez_aload_n (i := 0) dX11_count_108 rfl rfl ?_
  refine ez_getR dX11_count_109 flX11_9 (hF.lt (by decide)) (hF.kc (by decide) rfl) (hF.pt 107 rfl) ?_
  refine ez_bipush (v := 23) dX11_count_112 (by decide) ?_
  refine ez_iaN (k := 23) dX11_count_114 (hF.lt (by decide)) (hF.ka (by decide) rfl) (by omega) (by decide) ?_
  refine ez_topE (y := T.x 23) (hQ2.M.x _ (by decide)) ?_
  refine ez_iret dX11_count_115 rfl rfl ?_
  exact hQ2.end
theorem y_X11_count_5 {n : Nat} {sl : Nat × Nat} {kd : Nat → Nat × Nat} {I : Nat → Nat → Int32} {L : Nat → Nat → Int64} {Rf : Nat → Nat → Option Nat} (d : Nat) {T : zT} {H : Nat} (hM : zM n kd I L Rf T) (hO : zOk H T) (hH : H ≤ 1000000000)  : zq mX11_count (d + 400) [.ref 112, .int 5] (n, sl, kd, I, L, Rf) (zpM n sl kd I L Rf (some (.int (s_count T 5).1)) (s_count T 5).2) := by
  have hF := hM.F; have hc7 := hO.c
  have hsp : s_count T 5 = (T.x 24, T) := (by unfold s_count; rw [if_neg (by decide), if_neg (by decide), if_neg (by decide), if_neg (by decide), if_neg (by decide), if_pos rfl])
  rw [hsp]
  intro f B
  refine ez_meth pn_X.2.2.2.2.2.2.2.2.2.2.2 (Nat.le_of_ble_eq_true rfl) ?_
  show ez_P _ _ _ _ _ _ 0 [(0, .ref 112), (1, .int 5)] [] (n, sl, kd, I, L, Rf) _
  refine ez_aload_n (i := 0) dX11_count_0 rfl rfl ?_
  refine ez_iconst (v := 0) dX11_count_1 (by decide) ?_
  refine ez_pI dX11_count_2 plX11_89 (hF.lt (by decide)) (hF.lx (by decide)) (hF.kc (by decide) rfl) rfl rfl ?_
  refine ez_nmI (fun I1 hI1 => ?_)
  have hQ2 : zQ n kd I L Rf I I1 L T (I 124) (I 112 25) := by rw [hI1]; exact zQ.start hM
  refine ez_iload_n (i := 1) dX11_count_5 rfl rfl ?_
  refine ez_tin (off := 110) (tgt := 116) dX11_count_6 (by decide) (by decide) rfl (by decide) ?_
  refine ez_aload_n (i := 0) dX11_count_116 rfl rfl ?_
  refine ez_getR dX11_count_117 flX11_9 (hF.lt (by decide)) (hF.kc (by decide) rfl) (hF.pt 107 rfl) ?_
  refine ez_bipush (v := 24) dX11_count_120 (by decide) ?_
  refine ez_iaN (k := 24) dX11_count_122 (hF.lt (by decide)) (hF.ka (by decide) rfl) (by omega) (by decide) ?_
  refine ez_topE (y := T.x 24) (hQ2.M.x _ (by decide)) ?_
  refine ez_iret dX11_count_123 rfl rfl ?_
  exact hQ2.end
theorem y_X11_count_6 {n : Nat} {sl : Nat × Nat} {kd : Nat → Nat × Nat} {I : Nat → Nat → Int32} {L : Nat → Nat → Int64} {Rf : Nat → Nat → Option Nat} (d : Nat) {T : zT} {H : Nat} (hM : zM n kd I L Rf T) (hO : zOk H T) (hH : H ≤ 1000000000)  : zq mX11_count (d + 400) [.ref 112, .int 6] (n, sl, kd, I, L, Rf) (zpM n sl kd I L Rf (some (.int (s_count T 6).1)) (s_count T 6).2) := by
  have hF := hM.F; have hc7 := hO.c
  have hsp : s_count T 6 = (10 + zhw T T.x, T) := (by unfold s_count; rw [if_neg (by decide), if_neg (by decide), if_neg (by decide), if_neg (by decide), if_neg (by decide), if_neg (by decide), if_pos rfl])
  rw [hsp]
  intro f B
  refine ez_meth pn_X.2.2.2.2.2.2.2.2.2.2.2 (Nat.le_of_ble_eq_true rfl) ?_
  show ez_P _ _ _ _ _ _ 0 [(0, .ref 112), (1, .int 6)] [] (n, sl, kd, I, L, Rf) _
  refine ez_aload_n (i := 0) dX11_count_0 rfl rfl ?_
  refine ez_iconst (v := 0) dX11_count_1 (by decide) ?_
  refine ez_pI dX11_count_2 plX11_89 (hF.lt (by decide)) (hF.lx (by decide)) (hF.kc (by decide) rfl) rfl rfl ?_
  refine ez_nmI (fun I1 hI1 => ?_)
  have hQ2 : zQ n kd I L Rf I I1 L T (I 124) (I 112 25) := by rw [hI1]; exact zQ.start hM
  refine ez_iload_n (i := 1) dX11_count_5 rfl rfl ?_
  refine ez_tin (off := 118) (tgt := 124) dX11_count_6 (by decide) (by decide) rfl (by decide) ?_
  refine ez_bipush (v := 10) dX11_count_124 (by decide) ?_
  refine ez_aload_n (i := 0) dX11_count_126 rfl rfl ?_
  refine ez_aload_n (i := 0) dX11_count_127 rfl rfl ?_
  refine ez_getR dX11_count_128 flX11_9 (hF.lt (by decide)) (hF.kc (by decide) rfl) (hF.pt 107 rfl) ?_
  refine ez_callV (M1 := mX11_windOf) (rest := [.int 10]) dX11_count_131 mlX11_211 mvX11_windOf rfl (hF.lt (by decide)) (hF.kc (by decide) rfl) (Nat.le_of_ble_eq_true rfl) rfl (y_wind (I := I1) (L := L) (d + 399) hQ2.M.W hc7 (Or.inl rfl) hQ2.M.x hO.x (by omega) hO.wm) eb_rok ?_
  rintro _ _ ⟨rfl, rfl⟩
  show ez_P _ _ _ _ _ _ 134 [(0, .ref 112), (1, .int 6)] (.int (zhw T T.x) :: [.int 10]) _ _
  refine ez_iadd dX11_count_134 ?_
  refine ez_iret dX11_count_135 rfl rfl ?_
  exact hQ2.end
theorem y_X11_count_7 {n : Nat} {sl : Nat × Nat} {kd : Nat → Nat × Nat} {I : Nat → Nat → Int32} {L : Nat → Nat → Int64} {Rf : Nat → Nat → Option Nat} (d : Nat) {T : zT} {H : Nat} (hM : zM n kd I L Rf T) (hO : zOk H T) (hH : H ≤ 1000000000)  : zq mX11_count (d + 400) [.ref 112, .int 7] (n, sl, kd, I, L, Rf) (zpM n sl kd I L Rf (some (.int (s_count T 7).1)) (s_count T 7).2) := by
  have hF := hM.F; have hc7 := hO.c
  have hsp : s_count T 7 = (z_sum T.x T.c, T) := (by unfold s_count; rw [if_neg (by decide), if_neg (by decide), if_neg (by decide), if_neg (by decide), if_neg (by decide), if_neg (by decide), if_neg (by decide), if_pos rfl])
  rw [hsp]
  intro f B
  refine ez_meth pn_X.2.2.2.2.2.2.2.2.2.2.2 (Nat.le_of_ble_eq_true rfl) ?_
  show ez_P _ _ _ _ _ _ 0 [(0, .ref 112), (1, .int 7)] [] (n, sl, kd, I, L, Rf) _
  refine ez_aload_n (i := 0) dX11_count_0 rfl rfl ?_
  refine ez_iconst (v := 0) dX11_count_1 (by decide) ?_
  refine ez_pI dX11_count_2 plX11_89 (hF.lt (by decide)) (hF.lx (by decide)) (hF.kc (by decide) rfl) rfl rfl ?_
  refine ez_nmI (fun I1 hI1 => ?_)
  have hQ2 : zQ n kd I L Rf I I1 L T (I 124) (I 112 25) := by rw [hI1]; exact zQ.start hM
  refine ez_iload_n (i := 1) dX11_count_5 rfl rfl ?_
  refine ez_tin (off := 130) (tgt := 136) dX11_count_6 (by decide) (by decide) rfl (by decide) ?_
  refine ez_aload_n (i := 0) dX11_count_136 rfl rfl ?_
  refine ez_callV (M1 := mX11_gravity) (rest := []) dX11_count_137 mlX11_228 mvX11_gravity rfl (hF.lt (by decide)) (hF.kc (by decide) rfl) (Nat.le_of_ble_eq_true rfl) rfl (y_gvT (I := I1) (L := L) (d + 399) hQ2.M hO.c) eb_rok ?_
  rintro _ _ ⟨rfl, rfl⟩
  show ez_P _ _ _ _ _ _ 140 [(0, .ref 112), (1, .int 7)] (.int (z_sum T.x T.c) :: []) _ _
  refine ez_iret dX11_count_140 rfl rfl ?_
  exact hQ2.end
theorem y_X11_count_8 {n : Nat} {sl : Nat × Nat} {kd : Nat → Nat × Nat} {I : Nat → Nat → Int32} {L : Nat → Nat → Int64} {Rf : Nat → Nat → Option Nat} (d : Nat) {T : zT} {H : Nat} (hM : zM n kd I L Rf T) (hO : zOk H T) (hH : H ≤ 1000000000)  : zq mX11_count (d + 400) [.ref 112, .int 8] (n, sl, kd, I, L, Rf) (zpM n sl kd I L Rf (some (.int (s_count T 8).1)) (s_count T 8).2) := by
  have hF := hM.F; have hc7 := hO.c
  have hsp : s_count T 8 = (zws T (zal T) T.c, T) := (by unfold s_count; rw [if_neg (by decide), if_neg (by decide), if_neg (by decide), if_neg (by decide), if_neg (by decide), if_neg (by decide), if_neg (by decide), if_neg (by decide), if_pos rfl])
  rw [hsp]
  intro f B
  refine ez_meth pn_X.2.2.2.2.2.2.2.2.2.2.2 (Nat.le_of_ble_eq_true rfl) ?_
  show ez_P _ _ _ _ _ _ 0 [(0, .ref 112), (1, .int 8)] [] (n, sl, kd, I, L, Rf) _
  refine ez_aload_n (i := 0) dX11_count_0 rfl rfl ?_
  refine ez_iconst (v := 0) dX11_count_1 (by decide) ?_
  refine ez_pI dX11_count_2 plX11_89 (hF.lt (by decide)) (hF.lx (by decide)) (hF.kc (by decide) rfl) rfl rfl ?_
  refine ez_nmI (fun I1 hI1 => ?_)
  have hQ2 : zQ n kd I L Rf I I1 L T (I 124) (I 112 25) := by rw [hI1]; exact zQ.start hM
  refine ez_iload_n (i := 1) dX11_count_5 rfl rfl ?_
  refine ez_tin (off := 135) (tgt := 141) dX11_count_6 (by decide) (by decide) rfl (by decide) ?_
  refine ez_aload_n (i := 0) dX11_count_141 rfl rfl ?_
  refine ez_aload_n (i := 0) dX11_count_142 rfl rfl ?_
  refine ez_callV (M1 := mX11_all) (rest := [.ref 112]) dX11_count_143 mlX11_310 mvX11_all rfl (hF.lt (by decide)) (hF.kc (by decide) rfl) (Nat.le_of_ble_eq_true rfl) rfl (y_allT (I := I1) (L := L) (d + 399) hF (T := T) hQ2.M.c) eb_rok ?_
  rintro _ _ ⟨rfl, rfl⟩
  show ez_P _ _ _ _ _ _ 146 [(0, .ref 112), (1, .int 8)] (.int (zal T) :: [.ref 112]) _ _
  refine ez_callV (M1 := mX11_weightsOf) (rest := []) dX11_count_146 mlX11_313 mvX11_weightsOf rfl (hF.lt (by decide)) (hF.kc (by decide) rfl) (Nat.le_of_ble_eq_true rfl) rfl (y_X11_weightsOf (T := T) (I := I1) (L := L) (d + 49) hQ2 ⟨rfl, rfl, rfl, rfl, rfl, rfl⟩ hO hH (zal T)) eb_rok ?_
  rintro _ _ ⟨rfl, rfl⟩
  show ez_P _ _ _ _ _ _ 149 [(0, .ref 112), (1, .int 8)] (.int (zws T (zal T) T.c) :: []) _ _
  refine ez_iret dX11_count_149 rfl rfl ?_
  exact hQ2.end
theorem y_X11_count_9 {n : Nat} {sl : Nat × Nat} {kd : Nat → Nat × Nat} {I : Nat → Nat → Int32} {L : Nat → Nat → Int64} {Rf : Nat → Nat → Option Nat} (d : Nat) {T : zT} {H : Nat} (hM : zM n kd I L Rf T) (hO : zOk H T) (hH : H ≤ 1000000000)  : zq mX11_count (d + 400) [.ref 112, .int 9] (n, sl, kd, I, L, Rf) (zpM n sl kd I L Rf (some (.int (s_count T 9).1)) (s_count T 9).2) := by
  have hF := hM.F; have hc7 := hO.c
  have hsp : s_count T 9 = (nI T.sn.length, T) := (by unfold s_count; rw [if_neg (by decide), if_neg (by decide), if_neg (by decide), if_neg (by decide), if_neg (by decide), if_neg (by decide), if_neg (by decide), if_neg (by decide), if_neg (by decide), if_pos rfl])
  rw [hsp]
  intro f B
  refine ez_meth pn_X.2.2.2.2.2.2.2.2.2.2.2 (Nat.le_of_ble_eq_true rfl) ?_
  show ez_P _ _ _ _ _ _ 0 [(0, .ref 112), (1, .int 9)] [] (n, sl, kd, I, L, Rf) _
  refine ez_aload_n (i := 0) dX11_count_0 rfl rfl ?_
  refine ez_iconst (v := 0) dX11_count_1 (by decide) ?_
  refine ez_pI dX11_count_2 plX11_89 (hF.lt (by decide)) (hF.lx (by decide)) (hF.kc (by decide) rfl) rfl rfl ?_
  refine ez_nmI (fun I1 hI1 => ?_)
  have hQ2 : zQ n kd I L Rf I I1 L T (I 124) (I 112 25) := by rw [hI1]; exact zQ.start hM
  refine ez_iload_n (i := 1) dX11_count_5 rfl rfl ?_
  refine ez_tin (off := 144) (tgt := 150) dX11_count_6 (by decide) (by decide) rfl (by decide) ?_
  refine ez_aload_n (i := 0) dX11_count_150 rfl rfl ?_
  refine ez_getI dX11_count_151 flX11_330 (hF.lt (by decide)) (hF.kc (by decide) rfl) ?_
  refine ez_topE (y := nI T.sn.length) hQ2.M.sn.1 ?_
  refine ez_iret dX11_count_154 rfl rfl ?_
  exact hQ2.end
theorem y_X11_count_10 {n : Nat} {sl : Nat × Nat} {kd : Nat → Nat × Nat} {I : Nat → Nat → Int32} {L : Nat → Nat → Int64} {Rf : Nat → Nat → Option Nat} (d : Nat) {T : zT} {H : Nat} (hM : zM n kd I L Rf T) (hO : zOk H T) (hH : H ≤ 1000000000)  : zq mX11_count (d + 400) [.ref 112, .int 10] (n, sl, kd, I, L, Rf) (zpM n sl kd I L Rf (some (.int (s_count T 10).1)) (s_count T 10).2) := by
  have hF := hM.F; have hc7 := hO.c
  have hsp : s_count T 10 = (nI T.hd.length, T) := (by unfold s_count; rw [if_neg (by decide), if_neg (by decide), if_neg (by decide), if_neg (by decide), if_neg (by decide), if_neg (by decide), if_neg (by decide), if_neg (by decide), if_neg (by decide), if_neg (by decide), if_pos rfl])
  rw [hsp]
  intro f B
  refine ez_meth pn_X.2.2.2.2.2.2.2.2.2.2.2 (Nat.le_of_ble_eq_true rfl) ?_
  show ez_P _ _ _ _ _ _ 0 [(0, .ref 112), (1, .int 10)] [] (n, sl, kd, I, L, Rf) _
  refine ez_aload_n (i := 0) dX11_count_0 rfl rfl ?_
  refine ez_iconst (v := 0) dX11_count_1 (by decide) ?_
  refine ez_pI dX11_count_2 plX11_89 (hF.lt (by decide)) (hF.lx (by decide)) (hF.kc (by decide) rfl) rfl rfl ?_
  refine ez_nmI (fun I1 hI1 => ?_)
  have hQ2 : zQ n kd I L Rf I I1 L T (I 124) (I 112 25) := by rw [hI1]; exact zQ.start hM
  refine ez_iload_n (i := 1) dX11_count_5 rfl rfl ?_
  refine ez_tin (off := 149) (tgt := 155) dX11_count_6 (by decide) (by decide) rfl (by decide) ?_
  refine ez_aload_n (i := 0) dX11_count_155 rfl rfl ?_
  refine ez_getI dX11_count_156 flX11_346 (hF.lt (by decide)) (hF.kc (by decide) rfl) ?_
  refine ez_topE (y := nI T.hd.length) hQ2.M.hd.1 ?_
  refine ez_iret dX11_count_159 rfl rfl ?_
  exact hQ2.end
theorem y_X11_count_11 {n : Nat} {sl : Nat × Nat} {kd : Nat → Nat × Nat} {I : Nat → Nat → Int32} {L : Nat → Nat → Int64} {Rf : Nat → Nat → Option Nat} (d : Nat) {T : zT} {H : Nat} (hM : zM n kd I L Rf T) (hO : zOk H T) (hH : H ≤ 1000000000)  : zq mX11_count (d + 400) [.ref 112, .int 11] (n, sl, kd, I, L, Rf) (zpM n sl kd I L Rf (some (.int (s_count T 11).1)) (s_count T 11).2) := by
  have hF := hM.F; have hc7 := hO.c
  have hsp : s_count T 11 = (nI T.un.length, T) := (by unfold s_count; rw [if_neg (by decide), if_neg (by decide), if_neg (by decide), if_neg (by decide), if_neg (by decide), if_neg (by decide), if_neg (by decide), if_neg (by decide), if_neg (by decide), if_neg (by decide), if_neg (by decide), if_pos rfl])
  rw [hsp]
  intro f B
  refine ez_meth pn_X.2.2.2.2.2.2.2.2.2.2.2 (Nat.le_of_ble_eq_true rfl) ?_
  show ez_P _ _ _ _ _ _ 0 [(0, .ref 112), (1, .int 11)] [] (n, sl, kd, I, L, Rf) _
  refine ez_aload_n (i := 0) dX11_count_0 rfl rfl ?_
  refine ez_iconst (v := 0) dX11_count_1 (by decide) ?_
  refine ez_pI dX11_count_2 plX11_89 (hF.lt (by decide)) (hF.lx (by decide)) (hF.kc (by decide) rfl) rfl rfl ?_
  refine ez_nmI (fun I1 hI1 => ?_)
  have hQ2 : zQ n kd I L Rf I I1 L T (I 124) (I 112 25) := by rw [hI1]; exact zQ.start hM
  refine ez_iload_n (i := 1) dX11_count_5 rfl rfl ?_
  refine ez_tin (off := 154) (tgt := 160) dX11_count_6 (by decide) (by decide) rfl (by decide) ?_
  refine ez_aload_n (i := 0) dX11_count_160 rfl rfl ?_
  refine ez_getI dX11_count_161 flX11_154 (hF.lt (by decide)) (hF.kc (by decide) rfl) ?_
  refine ez_topE (y := nI T.un.length) hQ2.M.un.1 ?_
  refine ez_iret dX11_count_164 rfl rfl ?_
  exact hQ2.end
theorem y_X11_count_12 {n : Nat} {sl : Nat × Nat} {kd : Nat → Nat × Nat} {I : Nat → Nat → Int32} {L : Nat → Nat → Int64} {Rf : Nat → Nat → Option Nat} (d : Nat) {T : zT} {H : Nat} (hM : zM n kd I L Rf T) (hO : zOk H T) (hH : H ≤ 1000000000)  : zq mX11_count (d + 400) [.ref 112, .int 12] (n, sl, kd, I, L, Rf) (zpM n sl kd I L Rf (some (.int (s_count T 12).1)) (s_count T 12).2) := by
  have hF := hM.F; have hc7 := hO.c
  have hsp : s_count T 12 = (nI T.rw.length, T) := (by unfold s_count; rw [if_neg (by decide), if_neg (by decide), if_neg (by decide), if_neg (by decide), if_neg (by decide), if_neg (by decide), if_neg (by decide), if_neg (by decide), if_neg (by decide), if_neg (by decide), if_neg (by decide), if_neg (by decide), if_pos rfl])
  rw [hsp]
  intro f B
  refine ez_meth pn_X.2.2.2.2.2.2.2.2.2.2.2 (Nat.le_of_ble_eq_true rfl) ?_
  show ez_P _ _ _ _ _ _ 0 [(0, .ref 112), (1, .int 12)] [] (n, sl, kd, I, L, Rf) _
  refine ez_aload_n (i := 0) dX11_count_0 rfl rfl ?_
  refine ez_iconst (v := 0) dX11_count_1 (by decide) ?_
  refine ez_pI dX11_count_2 plX11_89 (hF.lt (by decide)) (hF.lx (by decide)) (hF.kc (by decide) rfl) rfl rfl ?_
  refine ez_nmI (fun I1 hI1 => ?_)
  have hQ2 : zQ n kd I L Rf I I1 L T (I 124) (I 112 25) := by rw [hI1]; exact zQ.start hM
  refine ez_iload_n (i := 1) dX11_count_5 rfl rfl ?_
  refine ez_tin (off := 159) (tgt := 165) dX11_count_6 (by decide) (by decide) rfl (by decide) ?_
  refine ez_aload_n (i := 0) dX11_count_165 rfl rfl ?_
  refine ez_getI dX11_count_166 flX11_92 (hF.lt (by decide)) (hF.kc (by decide) rfl) ?_
  refine ez_topE (y := nI T.rw.length) hQ2.M.rw.1 ?_
  refine ez_iret dX11_count_169 rfl rfl ?_
  exact hQ2.end
theorem y_X11_count_13 {n : Nat} {sl : Nat × Nat} {kd : Nat → Nat × Nat} {I : Nat → Nat → Int32} {L : Nat → Nat → Int64} {Rf : Nat → Nat → Option Nat} (d : Nat) {T : zT} {H : Nat} (hM : zM n kd I L Rf T) (hO : zOk H T) (hH : H ≤ 1000000000)  : zq mX11_count (d + 400) [.ref 112, .int 13] (n, sl, kd, I, L, Rf) (zpM n sl kd I L Rf (some (.int (s_count T 13).1)) (s_count T 13).2) := by
  have hF := hM.F; have hc7 := hO.c
  have hsp : s_count T 13 = (nI T.tx.length, T) := (by unfold s_count; rw [if_neg (by decide), if_neg (by decide), if_neg (by decide), if_neg (by decide), if_neg (by decide), if_neg (by decide), if_neg (by decide), if_neg (by decide), if_neg (by decide), if_neg (by decide), if_neg (by decide), if_neg (by decide), if_neg (by decide), if_pos rfl])
  rw [hsp]
  intro f B
  refine ez_meth pn_X.2.2.2.2.2.2.2.2.2.2.2 (Nat.le_of_ble_eq_true rfl) ?_
  show ez_P _ _ _ _ _ _ 0 [(0, .ref 112), (1, .int 13)] [] (n, sl, kd, I, L, Rf) _
  refine ez_aload_n (i := 0) dX11_count_0 rfl rfl ?_
  refine ez_iconst (v := 0) dX11_count_1 (by decide) ?_
  refine ez_pI dX11_count_2 plX11_89 (hF.lt (by decide)) (hF.lx (by decide)) (hF.kc (by decide) rfl) rfl rfl ?_
  refine ez_nmI (fun I1 hI1 => ?_)
  have hQ2 : zQ n kd I L Rf I I1 L T (I 124) (I 112 25) := by rw [hI1]; exact zQ.start hM
  refine ez_iload_n (i := 1) dX11_count_5 rfl rfl ?_
  refine ez_tin (off := 164) (tgt := 170) dX11_count_6 (by decide) (by decide) rfl (by decide) ?_
  refine ez_aload_n (i := 0) dX11_count_170 rfl rfl ?_
  refine ez_getI dX11_count_171 flX11_102 (hF.lt (by decide)) (hF.kc (by decide) rfl) ?_
  refine ez_topE (y := nI T.tx.length) hQ2.M.tx.1 ?_
  refine ez_iret dX11_count_174 rfl rfl ?_
  exact hQ2.end
theorem y_X11_count_no {n : Nat} {sl : Nat × Nat} {kd : Nat → Nat × Nat} {I : Nat → Nat → Int32} {L : Nat → Nat → Int64} {Rf : Nat → Nat → Option Nat} (d : Nat) {T : zT} {H : Nat} (hM : zM n kd I L Rf T) (hO : zOk H T) (hH : H ≤ 1000000000) {v : Int32} (hn : ¬ (0 ≤ v ∧ v ≤ 13))  : zq mX11_count (d + 400) [.ref 112, .int v] (n, sl, kd, I, L, Rf) (zpM n sl kd I L Rf (some (.int (s_count T v).1)) (s_count T v).2) := by
  have hF := hM.F; have hc7 := hO.c
  have hsp : s_count T v = (-1, T) := (by unfold s_count; rw [if_neg (fun e => hn (by rw [e]; decide)), if_neg (fun e => hn (by rw [e]; decide)), if_neg (fun e => hn (by rw [e]; decide)), if_neg (fun e => hn (by rw [e]; decide)), if_neg (fun e => hn (by rw [e]; decide)), if_neg (fun e => hn (by rw [e]; decide)), if_neg (fun e => hn (by rw [e]; decide)), if_neg (fun e => hn (by rw [e]; decide)), if_neg (fun e => hn (by rw [e]; decide)), if_neg (fun e => hn (by rw [e]; decide)), if_neg (fun e => hn (by rw [e]; decide)), if_neg (fun e => hn (by rw [e]; decide)), if_neg (fun e => hn (by rw [e]; decide)), if_neg (fun e => hn (by rw [e]; decide))])
  rw [hsp]
  intro f B
  refine ez_meth pn_X.2.2.2.2.2.2.2.2.2.2.2 (Nat.le_of_ble_eq_true rfl) ?_
  have ho : v.toInt < 0 ∨ 13 < v.toInt := by
    have h1 := hn; simp only [Int32.le_iff_toInt_le] at h1
    rw [show (0 : Int32).toInt = 0 from rfl, show (13 : Int32).toInt = 13 from rfl] at h1
    omega
  show ez_P _ _ _ _ _ _ 0 [(0, .ref 112), (1, .int v)] [] (n, sl, kd, I, L, Rf) _
  refine ez_aload_n (i := 0) dX11_count_0 rfl rfl ?_
  refine ez_iconst (v := 0) dX11_count_1 (by decide) ?_
  refine ez_pI dX11_count_2 plX11_89 (hF.lt (by decide)) (hF.lx (by decide)) (hF.kc (by decide) rfl) rfl rfl ?_
  refine ez_nmI (fun I1 hI1 => ?_)
  have hQ2 : zQ n kd I L Rf I I1 L T (I 124) (I 112 25) := by rw [hI1]; exact zQ.start hM
  refine ez_iload_n (i := 1) dX11_count_5 rfl rfl ?_
  refine ez_tout (tgt := 175) dX11_count_6 ho (by decide) ?_
  refine ez_iconst (v := (-1)) dX11_count_175 (by decide) ?_
  refine ez_iret dX11_count_176 rfl rfl ?_
  exact hQ2.end
theorem y_X11_count {n : Nat} {sl : Nat × Nat} {kd : Nat → Nat × Nat} {I : Nat → Nat → Int32} {L : Nat → Nat → Int64} {Rf : Nat → Nat → Option Nat} (d : Nat) {T : zT} {H : Nat} (hM : zM n kd I L Rf T) (hO : zOk H T) (hH : H ≤ 1000000000) (v : Int32) : zq mX11_count (d + 400) [.ref 112, .int v] (n, sl, kd, I, L, Rf) (zpM n sl kd I L Rf (some (.int (s_count T v).1)) (s_count T v).2) := by
  by_cases hn : 0 ≤ v ∧ v ≤ 13
  · obtain ⟨q, _, hq, rfl⟩ := z_pk1 (lo := 0) (N := 13) hn (by decide) (by decide)
    rcases (show q = 0 ∨ q = 1 ∨ q = 2 ∨ q = 3 ∨ q = 4 ∨ q = 5 ∨ q = 6 ∨ q = 7 ∨ q = 8 ∨ q = 9 ∨ q = 10 ∨ q = 11 ∨ q = 12 ∨ q = 13 by omega) with rfl | rfl | rfl | rfl | rfl | rfl | rfl | rfl | rfl | rfl | rfl | rfl | rfl | rfl
    · exact y_X11_count_0 d hM hO hH
    · exact y_X11_count_1 d hM hO hH
    · exact y_X11_count_2 d hM hO hH
    · exact y_X11_count_3 d hM hO hH
    · exact y_X11_count_4 d hM hO hH
    · exact y_X11_count_5 d hM hO hH
    · exact y_X11_count_6 d hM hO hH
    · exact y_X11_count_7 d hM hO hH
    · exact y_X11_count_8 d hM hO hH
    · exact y_X11_count_9 d hM hO hH
    · exact y_X11_count_10 d hM hO hH
    · exact y_X11_count_11 d hM hO hH
    · exact y_X11_count_12 d hM hO hH
    · exact y_X11_count_13 d hM hO hH
  · exact y_X11_count_no d hM hO hH hn
