/-! the reference: hours, later, over, when, rolls, steady, makes, best -/
theorem zQ.rem {n : Nat} {kd : Nat → Nat × Nat} {I : Nat → Nat → Int32} {L : Nat → Nat → Int64} {Rf : Nat → Nat → Option Nat} {I0 g : Nat → Nat → Int32} {L0 : Nat → Nat → Int64} {T : zT} {x : Nat → Int32} {o : Int32} (h : zQ n kd I0 L0 Rf g I L T x o) (hu : T.un.length ≤ 12) : zQ n kd I0 L0 Rf g (z_rem I 113 T.un.length) L (T.w_un (zpush T.un T.x)) x o := by
  have hf : ∀ k, k ≠ 22 → z_rem I 113 T.un.length 112 k = I 112 k := fun k hk => z_rem_f hk
  have hc : ∀ c, c ≠ 112 → c ≠ 122 → z_rem I 113 T.un.length c = I c := fun c h1 h2 => z_rem_ne h1 h2
  refine ⟨⟨h.M.F, h.M.ru, ?_, ?_, ?_, ?_, ?_, ?_, ?_, ?_, z_rem_un (by decide) (by decide) hu h.M.un h.M.x, ?_, ?_, ?_⟩, ?_, ?_, (hf 9 (by decide)).trans h.t, fun c hh => by rw [hc c (by omega) (by omega)]; exact h.f c hh, fun c hh => by rw [hc c (by unfold zgc at hh; omega) (by unfold zgc at hh; omega)]; exact h.g.1 c hh, (hf 37 (by decide)).trans h.g.2⟩
  · rw [hf 18 (by decide), hc 119 (by decide) (by decide)]; exact h.M.rv
  · rw [hf 6 (by decide), hc 116 (by decide) (by decide)]; exact h.M.tx
  · rw [hf 8 (by decide)]; exact h.M.rw
  · rw [hc 114 (by decide) (by decide)]; exact h.M.pr
  · rw [hf 4 (by decide)]; exact h.M.wm
  · rw [hc 115 (by decide) (by decide)]; exact h.M.wd
  · rw [hf 1 (by decide)]; exact h.M.c
  · rw [hc 113 (by decide) (by decide)]; exact h.M.x
  · rw [hf 38 (by decide), hc 134 (by decide) (by decide), hc 135 (by decide) (by decide), hc 136 (by decide) (by decide)]; exact h.M.kp
  · rw [hf 30 (by decide), hc 126 (by decide) (by decide), hc 127 (by decide) (by decide), hc 128 (by decide) (by decide)]; exact h.M.sn
  · rw [hf 34 (by decide), hc 130 (by decide) (by decide), hc 131 (by decide) (by decide)]; exact h.M.hd
  · rw [hc 124 (by decide) (by decide)]; exact h.x
  · rw [hf 25 (by decide)]; exact h.o
theorem zfd_step {p : Nat → Bool} {N k : Nat} {R : Option Nat} (h : zfd p (N - k) k = R) (hk : k < N) (hp : ¬ p k = true) : zfd p (N - (k + 1)) (k + 1) = R := by
  rw [show N - k = (N - (k + 1)) + 1 from by omega, zfd, if_neg hp] at h; exact h
theorem zfd_hit {p : Nat → Bool} {N k : Nat} {R : Option Nat} (h : zfd p (N - k) k = R) (hk : k < N) (hp : p k = true) : R = some k := by
  rw [show N - k = (N - (k + 1)) + 1 from by omega, zfd, if_pos hp] at h; exact h.symm
theorem zfd_end {p : Nat → Bool} {N : Nat} {R : Option Nat} (h : zfd p (N - N) N = R) : R = none := by rw [Nat.sub_self, zfd] at h; exact h.symm
theorem z_n9 {n0 N : Nat} (h : n0 ≤ N) (hN : N < 2147483648) : 0 ≤ nI n0 ∧ nI n0 ≤ nI N := ⟨nI_pos' (by omega), nI_le h hN⟩
theorem z_n19 {n0 N : Nat} (h0 : 1 ≤ n0) (h : n0 ≤ N) (hN : N < 2147483648) : 1 ≤ nI n0 ∧ nI n0 ≤ nI N := ⟨nI_le (a := 1) h0 (by omega), nI_le h hN⟩
def s_hours (T : zT) (n : Int32) : Int32 × zT := if 0 ≤ n ∧ n ≤ 60 then (100 + zhk T T.x n.toNatClampNeg 22, ((if n.toNatClampNeg = 0 then T else T.w_un (zpush T.un T.x)).w_x (zhk T T.x n.toNatClampNeg)).w_rw [(zhk T T.x n.toNatClampNeg 23 - T.x 23).toInt64, (zhc T T.x n.toNatClampNeg).toInt64]) else (-1, T)
def s_later (T : zT) (n : Int32) : Int32 × zT := if 0 ≤ n ∧ n ≤ 99 then (100 + zhk T T.x n.toNatClampNeg 22, T.w_rw [(zhk T T.x n.toNatClampNeg 23 - T.x 23).toInt64, (zhk T T.x n.toNatClampNeg 21).toInt64]) else (-1, T)
def p_over (T : zT) (k : Nat) : Bool := decide (zhc T T.x (k + 1) ≠ 0)
def s_over (T : zT) : Int32 × zT := match zfd (p_over T) 99 0 with
  | some k => (nI (k + 1), T.w_rw [(100 + zhk T T.x (k + 1) 22).toInt64])
  | none => (-2, T)
def p_makes (T : zT) (v : Int32) (k : Nat) : Bool := decide (¬ zhk T T.x k 23 < v)
def s_makes (T : zT) (v : Int32) : Int32 × zT := if 0 ≤ v ∧ v ≤ 9999 then (match zfd (p_makes T v) 100 0 with
  | some k => (nI k, T.w_rw [(zhk T T.x k 23).toInt64, (zhk T T.x k 21).toInt64])
  | none => (-2, T)) else (-1, T)
def b_when (T : zT) (v : Int32) (k : Nat) (a : Int32 × Int32) : Int32 × Int32 := if zhk T T.x k 22 = v then (if a.1 = -2 then nI k else a.1, a.2 + 1) else a
def a_when (T : zT) (v : Int32) : Nat → Int32 × Int32
  | 0 => (-2, 0)
  | k + 1 => b_when T v k (a_when T v k)
def s_when (T : zT) (v : Int32) : Int32 × zT := if -20 ≤ v ∧ v ≤ 20 then (if (a_when T v 100).1 = -2 then (-2, T) else ((a_when T v 100).1, T.w_rw [(a_when T v 100).2.toInt64])) else (-1, T)
def b_rolls (T : zT) (k : Nat) (a : Int32 × Int32 × Int32 × Int32) : Int32 × Int32 × Int32 × Int32 := (if a.1 < zhk T T.x k 22 then zhk T T.x k 22 else a.1, if zhk T T.x k 22 < a.2.1 then zhk T T.x k 22 else a.2.1, if zhk T T.x k 22 ≤ a.1 then a.2.2.1 else nI k, if a.2.1 ≤ zhk T T.x k 22 then a.2.2.2 else nI k)
def a_rolls (T : zT) : Nat → Int32 × Int32 × Int32 × Int32
  | 0 => (-1000000, 1000000, 0, 0)
  | k + 1 => b_rolls T k (a_rolls T k)
def s_rolls (T : zT) (n : Int32) : Int32 × zT := if 0 ≤ n ∧ n ≤ 99 then (100 + (a_rolls T (n.toNatClampNeg + 1)).1, T.w_rw [(a_rolls T (n.toNatClampNeg + 1)).2.2.1.toInt64, (100 + (a_rolls T (n.toNatClampNeg + 1)).2.1).toInt64, (a_rolls T (n.toNatClampNeg + 1)).2.2.2.toInt64]) else (-1, T)
def b_steady (T : zT) (v : Int32) (k : Nat) (a : Int32 × Int32 × Int32) : Int32 × Int32 × Int32 := (if a.1 < (if v < z_ab (zhk T T.x (k + 1) 22) then 0 else a.2.2 + 1) then ((if v < z_ab (zhk T T.x (k + 1) 22) then 0 else a.2.2 + 1), nI (k + 1) - (if v < z_ab (zhk T T.x (k + 1) 22) then 0 else a.2.2 + 1) + 1, (if v < z_ab (zhk T T.x (k + 1) 22) then 0 else a.2.2 + 1)) else (a.1, a.2.1, (if v < z_ab (zhk T T.x (k + 1) 22) then 0 else a.2.2 + 1)))
def a_steady (T : zT) (v : Int32) : Nat → Int32 × Int32 × Int32
  | 0 => (0, 0, 0)
  | k + 1 => b_steady T v k (a_steady T v k)
def s_steady (T : zT) (n v : Int32) : Int32 × zT := if (1 ≤ n ∧ n ≤ 99) ∧ (0 ≤ v ∧ v ≤ 20) then ((a_steady T v n.toNatClampNeg).1, T.w_rw [(a_steady T v n.toNatClampNeg).2.1.toInt64]) else (-1, T)
theorem z_pk1 {n : Int32} {lo N : Nat} (h : nI lo ≤ n ∧ n ≤ nI N) (hN : N < 2147483647) (hl : lo ≤ N) : ∃ k, lo ≤ k ∧ k ≤ N ∧ n = nI k := by
  obtain ⟨k, hk, e⟩ := pk_of (x := n) (c := N + 1) (by omega) (Int32.le_trans (nI_pos' (by omega)) h.1) (by have := z_le1 (by omega) h.2; rwa [nI_1] at this)
  subst e
  exact ⟨k, (nI_leI (by omega) (by omega)).mp h.1, by omega, rfl⟩
theorem y_X11_hours_z {n : Nat} {sl : Nat × Nat} {kd : Nat → Nat × Nat} {I : Nat → Nat → Int32} {L : Nat → Nat → Int64} {Rf : Nat → Nat → Option Nat} (d : Nat) {T : zT} {H : Nat} (hM : zM n kd I L Rf T) (hO : zOk H T) (hH : H ≤ 1000000000) {n0 : Nat} (hn : n0 ≤ 60) (h0 : n0 = 0)  : zq mX11_hours (d + 400) [.ref 112, .int (nI n0)] (n, sl, kd, I, L, Rf) (zpM n sl kd I L Rf (some (.int (s_hours T (nI n0)).1)) (s_hours T (nI n0)).2) := by
  have hF := hM.F; have hc7 := hO.c
  have hsp : s_hours T (nI n0) = (100 + zhk T T.x n0 22, (T.w_x (zhk T T.x n0)).w_rw [(zhk T T.x n0 23 - T.x 23).toInt64, (zhc T T.x n0).toInt64]) := (by unfold s_hours; rw [if_pos ⟨(z_n9 (N := 60) hn (by decide)).1, (z_n9 (N := 60) hn (by decide)).2⟩, nI_clamp (by omega), if_pos h0])
  rw [hsp]
  intro f B
  refine ez_meth pn_X.2.2.2.2.2.2.2.2.2.2.2 (Nat.le_of_ble_eq_true rfl) ?_
  show ez_P _ _ _ _ _ _ 0 [(0, .ref 112), (1, .int (nI n0))] [] (n, sl, kd, I, L, Rf) _
  refine ez_aload_n (i := 0) dX11_hours_0 rfl rfl ?_
  refine ez_iconst (v := 0) dX11_hours_1 (by decide) ?_
  refine ez_pI dX11_hours_2 plX11_89 (hF.lt (by decide)) (hF.lx (by decide)) (hF.kc (by decide) rfl) rfl rfl ?_
  refine ez_nmI (fun I1 hI1 => ?_)
  have hQ2 : zQ n kd I L Rf I I1 L T (I 124) (I 112 25) := by rw [hI1]; exact zQ.start hM
  refine ez_iload_n (i := 1) dX11_hours_5 rfl rfl ?_
  refine ez_iconst (v := 0) dX11_hours_6 (by decide) ?_
  refine ez_bipush (v := 60) dX11_hours_7 (by decide) ?_
  refine ez_callS (M1 := mX11_in) (rest := []) dX11_hours_9 mlX11_98 msX11_in rfl (Nat.le_of_ble_eq_true rfl) rfl (zq_b1 (z_n9 (N := 60) hn (by decide)) (zq_b (q_X11_in (d + 399) (nI n0) 0 60) (n, sl, kd, I1, L, Rf))) eb_rok ?_
  rintro _ _ ⟨rfl, rfl⟩
  show ez_P _ _ _ _ _ _ 12 [(0, .ref 112), (1, .int (nI n0))] (.int 1 :: []) _ _
  refine ez_if_ne (tgt := 17) dX11_hours_12 (by decide) (fun c3 => ?_) (fun c3 => absurd (by decide) c3)
  refine ez_iload_n (i := 1) dX11_hours_17 rfl rfl ?_
  refine ez_if_le (tgt := 29) dX11_hours_18 (by decide) (fun c4 => ?_) (fun c4 => absurd (by rw [h0]; decide) c4)
  refine ez_aload_n (i := 0) dX11_hours_29 rfl rfl ?_
  refine ez_getR dX11_hours_30 flX11_9 (hF.lt (by decide)) (hF.kc (by decide) rfl) (hF.pt 107 rfl) ?_
  refine ez_bipush (v := 23) dX11_hours_33 (by decide) ?_
  refine ez_iaN (k := 23) dX11_hours_35 (hF.lt (by decide)) (hF.ka (by decide) rfl) (by omega) (by decide) ?_
  refine ez_topE (y := T.x 23) (hQ2.M.x _ (by decide)) ?_
  refine ez_istore_n (l' := [(2, .int (T.x 23)), (0, .ref 112), (1, .int (nI n0))]) dX11_hours_36 rfl (by decide) rfl ?_
  refine ez_aload_n (i := 0) dX11_hours_37 rfl rfl ?_
  refine ez_aload_n (i := 0) dX11_hours_38 rfl rfl ?_
  refine ez_getR dX11_hours_39 flX11_9 (hF.lt (by decide)) (hF.kc (by decide) rfl) (hF.pt 107 rfl) ?_
  refine ez_iload_n (i := 1) dX11_hours_42 rfl rfl ?_
  refine ez_callV (M1 := mX11_goHours) (rest := []) dX11_hours_43 mlX11_249 mvX11_goHours rfl (hF.lt (by decide)) (hF.kc (by decide) rfl) (Nat.le_of_ble_eq_true rfl) rfl (y_X11_goHours (I := I1) (N := n0) (d + 88) hQ2.M.W hc7 (Or.inl rfl) hQ2.M.x hO.x (by omega) (by omega) hO.wm hO.wd) zpH_ok ?_
  rintro _ _ ⟨rfl, I5, rfl, hq6⟩
  show ez_P _ _ _ _ _ _ 46 [(2, .int (T.x 23)), (0, .ref 112), (1, .int (nI n0))] [] (n, sl, kd, I5, L, Rf) _
  have hQ7 : zQ n kd I L Rf I I5 L (T.w_x (zhk T T.x n0)) (I 124) (zhc T T.x n0) := by exact hQ2.hpn hq6
  refine ez_aload_n (i := 0) dX11_hours_46 rfl rfl ?_
  refine ez_iconst (v := 0) dX11_hours_47 (by decide) ?_
  refine ez_pI dX11_hours_48 plX11_92 (hF.lt (by decide)) (hF.lx (by decide)) (hF.kc (by decide) rfl) rfl rfl ?_
  refine ez_nmI (fun I8 hI8 => ?_)
  have hQ9 : zQ n kd I L Rf I I8 L ((T.w_x (zhk T T.x n0)).w_rw []) (I 124) (zhc T T.x n0) := by rw [hI8]; exact hQ7.row0
  refine ez_aload_n (i := 0) dX11_hours_51 rfl rfl ?_
  refine ez_aload_n (i := 0) dX11_hours_52 rfl rfl ?_
  refine ez_getR dX11_hours_53 flX11_9 (hF.lt (by decide)) (hF.kc (by decide) rfl) (hF.pt 107 rfl) ?_
  refine ez_bipush (v := 23) dX11_hours_56 (by decide) ?_
  refine ez_iaN (k := 23) dX11_hours_58 (hF.lt (by decide)) (hF.ka (by decide) rfl) (by omega) (by decide) ?_
  refine ez_topE (y := (zhk T T.x n0) 23) (hQ9.M.x _ (by decide)) ?_
  refine ez_iload_n (i := 2) dX11_hours_59 rfl rfl ?_
  refine ez_isub dX11_hours_60 ?_
  refine ez_i2l dX11_hours_61 rfl ?_
  refine ez_callV (M1 := mX11_tell) (rest := []) dX11_hours_62 mlX11_252 mvX11_tell rfl (hF.lt (by decide)) (hF.kc (by decide) rfl) (Nat.le_of_ble_eq_true rfl) rfl (y_X11_tell (I := I8) (L := L) (d + 399) hF (k := 0) hQ9.M.rw.1 (by decide) ((((zhk T T.x n0) 23) - (T.x 23)).toInt64)) (eb_vok rfl) ?_
  rintro _ _ ⟨rfl, rfl⟩
  refine ez_nmI (fun I10 hI10 => ?_)
  refine ez_nmL (fun L11 hL11 => ?_)
  show ez_P _ _ _ _ _ _ 65 [(2, .int (T.x 23)), (0, .ref 112), (1, .int (nI n0))] [] (n, sl, kd, I10, L11, Rf) _
  have hQ12 : zQ n kd I L Rf I I10 L11 ((T.w_x (zhk T T.x n0)).w_rw [(((zhk T T.x n0) 23) - (T.x 23)).toInt64]) (I 124) (zhc T T.x n0) := by rw [hI10, hL11]; exact hQ9.tell ((((zhk T T.x n0) 23) - (T.x 23)).toInt64)
  refine ez_aload_n (i := 0) dX11_hours_65 rfl rfl ?_
  refine ez_aload_n (i := 0) dX11_hours_66 rfl rfl ?_
  refine ez_getI dX11_hours_67 flX11_235 (hF.lt (by decide)) (hF.kc (by decide) rfl) ?_
  refine ez_topE (y := zhc T T.x n0) hQ12.o ?_
  refine ez_i2l dX11_hours_70 rfl ?_
  refine ez_callV (M1 := mX11_tell) (rest := []) dX11_hours_71 mlX11_252 mvX11_tell rfl (hF.lt (by decide)) (hF.kc (by decide) rfl) (Nat.le_of_ble_eq_true rfl) rfl (y_X11_tell (I := I10) (L := L11) (d + 399) hF (k := 1) hQ12.M.rw.1 (by decide) ((zhc T T.x n0).toInt64)) (eb_vok rfl) ?_
  rintro _ _ ⟨rfl, rfl⟩
  refine ez_nmI (fun I13 hI13 => ?_)
  refine ez_nmL (fun L14 hL14 => ?_)
  show ez_P _ _ _ _ _ _ 74 [(2, .int (T.x 23)), (0, .ref 112), (1, .int (nI n0))] [] (n, sl, kd, I13, L14, Rf) _
  have hQ15 : zQ n kd I L Rf I I13 L14 ((T.w_x (zhk T T.x n0)).w_rw [(((zhk T T.x n0) 23) - (T.x 23)).toInt64, (zhc T T.x n0).toInt64]) (I 124) (zhc T T.x n0) := by rw [hI13, hL14]; exact hQ12.tell ((zhc T T.x n0).toInt64)
  refine ez_bipush (v := 100) dX11_hours_74 (by decide) ?_
  refine ez_aload_n (i := 0) dX11_hours_76 rfl rfl ?_
  refine ez_getR dX11_hours_77 flX11_9 (hF.lt (by decide)) (hF.kc (by decide) rfl) (hF.pt 107 rfl) ?_
  refine ez_bipush (v := 22) dX11_hours_80 (by decide) ?_
  refine ez_iaN (k := 22) dX11_hours_82 (hF.lt (by decide)) (hF.ka (by decide) rfl) (by omega) (by decide) ?_
  refine ez_topE (y := (zhk T T.x n0) 22) (hQ15.M.x _ (by decide)) ?_
  refine ez_iadd dX11_hours_83 ?_
  refine ez_iret dX11_hours_84 rfl rfl ?_
  exact hQ15.end
theorem y_X11_hours_p {n : Nat} {sl : Nat × Nat} {kd : Nat → Nat × Nat} {I : Nat → Nat → Int32} {L : Nat → Nat → Int64} {Rf : Nat → Nat → Option Nat} (d : Nat) {T : zT} {H : Nat} (hM : zM n kd I L Rf T) (hO : zOk H T) (hH : H ≤ 1000000000) {n0 : Nat} (hn : n0 ≤ 60) (h0 : 0 < n0)  : zq mX11_hours (d + 400) [.ref 112, .int (nI n0)] (n, sl, kd, I, L, Rf) (zpM n sl kd I L Rf (some (.int (s_hours T (nI n0)).1)) (s_hours T (nI n0)).2) := by
  have hF := hM.F; have hc7 := hO.c
  have hsp : s_hours T (nI n0) = (100 + zhk T T.x n0 22, ((T.w_un (zpush T.un T.x)).w_x (zhk T T.x n0)).w_rw [(zhk T T.x n0 23 - T.x 23).toInt64, (zhc T T.x n0).toInt64]) := (by unfold s_hours; rw [if_pos ⟨(z_n9 (N := 60) hn (by decide)).1, (z_n9 (N := 60) hn (by decide)).2⟩, nI_clamp (by omega), if_neg (by omega)])
  rw [hsp]
  intro f B
  refine ez_meth pn_X.2.2.2.2.2.2.2.2.2.2.2 (Nat.le_of_ble_eq_true rfl) ?_
  show ez_P _ _ _ _ _ _ 0 [(0, .ref 112), (1, .int (nI n0))] [] (n, sl, kd, I, L, Rf) _
  refine ez_aload_n (i := 0) dX11_hours_0 rfl rfl ?_
  refine ez_iconst (v := 0) dX11_hours_1 (by decide) ?_
  refine ez_pI dX11_hours_2 plX11_89 (hF.lt (by decide)) (hF.lx (by decide)) (hF.kc (by decide) rfl) rfl rfl ?_
  refine ez_nmI (fun I1 hI1 => ?_)
  have hQ2 : zQ n kd I L Rf I I1 L T (I 124) (I 112 25) := by rw [hI1]; exact zQ.start hM
  refine ez_iload_n (i := 1) dX11_hours_5 rfl rfl ?_
  refine ez_iconst (v := 0) dX11_hours_6 (by decide) ?_
  refine ez_bipush (v := 60) dX11_hours_7 (by decide) ?_
  refine ez_callS (M1 := mX11_in) (rest := []) dX11_hours_9 mlX11_98 msX11_in rfl (Nat.le_of_ble_eq_true rfl) rfl (zq_b1 (z_n9 (N := 60) hn (by decide)) (zq_b (q_X11_in (d + 399) (nI n0) 0 60) (n, sl, kd, I1, L, Rf))) eb_rok ?_
  rintro _ _ ⟨rfl, rfl⟩
  show ez_P _ _ _ _ _ _ 12 [(0, .ref 112), (1, .int (nI n0))] (.int 1 :: []) _ _
  refine ez_if_ne (tgt := 17) dX11_hours_12 (by decide) (fun c3 => ?_) (fun c3 => absurd (by decide) c3)
  refine ez_iload_n (i := 1) dX11_hours_17 rfl rfl ?_
  refine ez_if_le (tgt := 29) dX11_hours_18 (by decide) (fun c4 => absurd c4 (nI_nle h0 (by omega))) (fun c4 => ?_)
  refine ez_aload_n (i := 0) dX11_hours_21 rfl rfl ?_
  refine ez_aload_n (i := 0) dX11_hours_22 rfl rfl ?_
  refine ez_getR dX11_hours_23 flX11_9 (hF.lt (by decide)) (hF.kc (by decide) rfl) (hF.pt 107 rfl) ?_
  refine ez_callV (M1 := mX11_remember) (rest := []) dX11_hours_26 mlX11_246 mvX11_remember rfl (hF.lt (by decide)) (hF.kc (by decide) rfl) (Nat.le_of_ble_eq_true rfl) rfl (y_X11_remember (I := I1) (p := 113) (d + 398) hF (Or.inl rfl) (hF.ka (by decide) rfl) hQ2.M.un.1 hO.unl) (eb_vok rfl) ?_
  rintro _ _ ⟨rfl, rfl⟩
  refine ez_nmI (fun I5 hI5 => ?_)
  show ez_P _ _ _ _ _ _ 29 [(0, .ref 112), (1, .int (nI n0))] [] (n, sl, kd, I5, L, Rf) _
  have hQ6 : zQ n kd I L Rf I I5 L (T.w_un (zpush T.un T.x)) (I 124) (I 112 25) := by rw [hI5]; exact hQ2.rem hO.unl
  refine ez_aload_n (i := 0) dX11_hours_29 rfl rfl ?_
  refine ez_getR dX11_hours_30 flX11_9 (hF.lt (by decide)) (hF.kc (by decide) rfl) (hF.pt 107 rfl) ?_
  refine ez_bipush (v := 23) dX11_hours_33 (by decide) ?_
  refine ez_iaN (k := 23) dX11_hours_35 (hF.lt (by decide)) (hF.ka (by decide) rfl) (by omega) (by decide) ?_
  refine ez_topE (y := T.x 23) (hQ6.M.x _ (by decide)) ?_
  refine ez_istore_n (l' := [(2, .int (T.x 23)), (0, .ref 112), (1, .int (nI n0))]) dX11_hours_36 rfl (by decide) rfl ?_
  refine ez_aload_n (i := 0) dX11_hours_37 rfl rfl ?_
  refine ez_aload_n (i := 0) dX11_hours_38 rfl rfl ?_
  refine ez_getR dX11_hours_39 flX11_9 (hF.lt (by decide)) (hF.kc (by decide) rfl) (hF.pt 107 rfl) ?_
  refine ez_iload_n (i := 1) dX11_hours_42 rfl rfl ?_
  refine ez_callV (M1 := mX11_goHours) (rest := []) dX11_hours_43 mlX11_249 mvX11_goHours rfl (hF.lt (by decide)) (hF.kc (by decide) rfl) (Nat.le_of_ble_eq_true rfl) rfl (y_X11_goHours (I := I5) (N := n0) (d + 88) (hQ6.M.W.to (T1 := T) rfl rfl rfl rfl rfl) hc7 (Or.inl rfl) hQ6.M.x hO.x (by omega) (by omega) hO.wm hO.wd) zpH_ok ?_
  rintro _ _ ⟨rfl, I7, rfl, hq8⟩
  show ez_P _ _ _ _ _ _ 46 [(2, .int (T.x 23)), (0, .ref 112), (1, .int (nI n0))] [] (n, sl, kd, I7, L, Rf) _
  have hQ9 : zQ n kd I L Rf I I7 L ((T.w_un (zpush T.un T.x)).w_x (zhk T T.x n0)) (I 124) (zhc T T.x n0) := by exact hQ6.hpn hq8
  refine ez_aload_n (i := 0) dX11_hours_46 rfl rfl ?_
  refine ez_iconst (v := 0) dX11_hours_47 (by decide) ?_
  refine ez_pI dX11_hours_48 plX11_92 (hF.lt (by decide)) (hF.lx (by decide)) (hF.kc (by decide) rfl) rfl rfl ?_
  refine ez_nmI (fun I10 hI10 => ?_)
  have hQ11 : zQ n kd I L Rf I I10 L (((T.w_un (zpush T.un T.x)).w_x (zhk T T.x n0)).w_rw []) (I 124) (zhc T T.x n0) := by rw [hI10]; exact hQ9.row0
  refine ez_aload_n (i := 0) dX11_hours_51 rfl rfl ?_
  refine ez_aload_n (i := 0) dX11_hours_52 rfl rfl ?_
  refine ez_getR dX11_hours_53 flX11_9 (hF.lt (by decide)) (hF.kc (by decide) rfl) (hF.pt 107 rfl) ?_
  refine ez_bipush (v := 23) dX11_hours_56 (by decide) ?_
  refine ez_iaN (k := 23) dX11_hours_58 (hF.lt (by decide)) (hF.ka (by decide) rfl) (by omega) (by decide) ?_
  refine ez_topE (y := (zhk T T.x n0) 23) (hQ11.M.x _ (by decide)) ?_
  refine ez_iload_n (i := 2) dX11_hours_59 rfl rfl ?_
  refine ez_isub dX11_hours_60 ?_
  refine ez_i2l dX11_hours_61 rfl ?_
  refine ez_callV (M1 := mX11_tell) (rest := []) dX11_hours_62 mlX11_252 mvX11_tell rfl (hF.lt (by decide)) (hF.kc (by decide) rfl) (Nat.le_of_ble_eq_true rfl) rfl (y_X11_tell (I := I10) (L := L) (d + 399) hF (k := 0) hQ11.M.rw.1 (by decide) ((((zhk T T.x n0) 23) - (T.x 23)).toInt64)) (eb_vok rfl) ?_
  rintro _ _ ⟨rfl, rfl⟩
  refine ez_nmI (fun I12 hI12 => ?_)
  refine ez_nmL (fun L13 hL13 => ?_)
  show ez_P _ _ _ _ _ _ 65 [(2, .int (T.x 23)), (0, .ref 112), (1, .int (nI n0))] [] (n, sl, kd, I12, L13, Rf) _
  have hQ14 : zQ n kd I L Rf I I12 L13 (((T.w_un (zpush T.un T.x)).w_x (zhk T T.x n0)).w_rw [(((zhk T T.x n0) 23) - (T.x 23)).toInt64]) (I 124) (zhc T T.x n0) := by rw [hI12, hL13]; exact hQ11.tell ((((zhk T T.x n0) 23) - (T.x 23)).toInt64)
  refine ez_aload_n (i := 0) dX11_hours_65 rfl rfl ?_
  refine ez_aload_n (i := 0) dX11_hours_66 rfl rfl ?_
  refine ez_getI dX11_hours_67 flX11_235 (hF.lt (by decide)) (hF.kc (by decide) rfl) ?_
  refine ez_topE (y := zhc T T.x n0) hQ14.o ?_
  refine ez_i2l dX11_hours_70 rfl ?_
  refine ez_callV (M1 := mX11_tell) (rest := []) dX11_hours_71 mlX11_252 mvX11_tell rfl (hF.lt (by decide)) (hF.kc (by decide) rfl) (Nat.le_of_ble_eq_true rfl) rfl (y_X11_tell (I := I12) (L := L13) (d + 399) hF (k := 1) hQ14.M.rw.1 (by decide) ((zhc T T.x n0).toInt64)) (eb_vok rfl) ?_
  rintro _ _ ⟨rfl, rfl⟩
  refine ez_nmI (fun I15 hI15 => ?_)
  refine ez_nmL (fun L16 hL16 => ?_)
  show ez_P _ _ _ _ _ _ 74 [(2, .int (T.x 23)), (0, .ref 112), (1, .int (nI n0))] [] (n, sl, kd, I15, L16, Rf) _
  have hQ17 : zQ n kd I L Rf I I15 L16 (((T.w_un (zpush T.un T.x)).w_x (zhk T T.x n0)).w_rw [(((zhk T T.x n0) 23) - (T.x 23)).toInt64, (zhc T T.x n0).toInt64]) (I 124) (zhc T T.x n0) := by rw [hI15, hL16]; exact hQ14.tell ((zhc T T.x n0).toInt64)
  refine ez_bipush (v := 100) dX11_hours_74 (by decide) ?_
  refine ez_aload_n (i := 0) dX11_hours_76 rfl rfl ?_
  refine ez_getR dX11_hours_77 flX11_9 (hF.lt (by decide)) (hF.kc (by decide) rfl) (hF.pt 107 rfl) ?_
  refine ez_bipush (v := 22) dX11_hours_80 (by decide) ?_
  refine ez_iaN (k := 22) dX11_hours_82 (hF.lt (by decide)) (hF.ka (by decide) rfl) (by omega) (by decide) ?_
  refine ez_topE (y := (zhk T T.x n0) 22) (hQ17.M.x _ (by decide)) ?_
  refine ez_iadd dX11_hours_83 ?_
  refine ez_iret dX11_hours_84 rfl rfl ?_
  exact hQ17.end
theorem y_X11_hours_no {n : Nat} {sl : Nat × Nat} {kd : Nat → Nat × Nat} {I : Nat → Nat → Int32} {L : Nat → Nat → Int64} {Rf : Nat → Nat → Option Nat} (d : Nat) {T : zT} {H : Nat} (hM : zM n kd I L Rf T) (hO : zOk H T) (hH : H ≤ 1000000000) {v : Int32} (hn : ¬ (0 ≤ v ∧ v ≤ 60))  : zq mX11_hours (d + 400) [.ref 112, .int v] (n, sl, kd, I, L, Rf) (zpM n sl kd I L Rf (some (.int (s_hours T v).1)) (s_hours T v).2) := by
  have hF := hM.F; have hc7 := hO.c
  have hsp : s_hours T v = ((-1), T) := (by unfold s_hours; rw [if_neg hn])
  rw [hsp]
  intro f B
  refine ez_meth pn_X.2.2.2.2.2.2.2.2.2.2.2 (Nat.le_of_ble_eq_true rfl) ?_
  show ez_P _ _ _ _ _ _ 0 [(0, .ref 112), (1, .int v)] [] (n, sl, kd, I, L, Rf) _
  refine ez_aload_n (i := 0) dX11_hours_0 rfl rfl ?_
  refine ez_iconst (v := 0) dX11_hours_1 (by decide) ?_
  refine ez_pI dX11_hours_2 plX11_89 (hF.lt (by decide)) (hF.lx (by decide)) (hF.kc (by decide) rfl) rfl rfl ?_
  refine ez_nmI (fun I1 hI1 => ?_)
  have hQ2 : zQ n kd I L Rf I I1 L T (I 124) (I 112 25) := by rw [hI1]; exact zQ.start hM
  refine ez_iload_n (i := 1) dX11_hours_5 rfl rfl ?_
  refine ez_iconst (v := 0) dX11_hours_6 (by decide) ?_
  refine ez_bipush (v := 60) dX11_hours_7 (by decide) ?_
  refine ez_callS (M1 := mX11_in) (rest := []) dX11_hours_9 mlX11_98 msX11_in rfl (Nat.le_of_ble_eq_true rfl) rfl (zq_b0 hn (zq_b (q_X11_in (d + 399) v 0 60) (n, sl, kd, I1, L, Rf))) eb_rok ?_
  rintro _ _ ⟨rfl, rfl⟩
  show ez_P _ _ _ _ _ _ 12 [(0, .ref 112), (1, .int v)] (.int 0 :: []) _ _
  refine ez_if_ne (tgt := 17) dX11_hours_12 (by decide) (fun c3 => absurd c3 (by decide)) (fun c3 => ?_)
  refine ez_iconst (v := (-1)) dX11_hours_15 (by decide) ?_
  refine ez_iret dX11_hours_16 rfl rfl ?_
  exact hQ2.end
theorem y_X11_hours {n : Nat} {sl : Nat × Nat} {kd : Nat → Nat × Nat} {I : Nat → Nat → Int32} {L : Nat → Nat → Int64} {Rf : Nat → Nat → Option Nat} (d : Nat) {T : zT} {H : Nat} (hM : zM n kd I L Rf T) (hO : zOk H T) (hH : H ≤ 1000000000) (v : Int32) : zq mX11_hours (d + 400) [.ref 112, .int v] (n, sl, kd, I, L, Rf) (zpM n sl kd I L Rf (some (.int (s_hours T v).1)) (s_hours T v).2) := by
  by_cases hn : 0 ≤ v ∧ v ≤ 60
  · obtain ⟨n0, _, hn0, rfl⟩ := z_pk1 (lo := 0) (N := 60) hn (by decide) (by decide)
    by_cases h0 : n0 = 0
    · exact y_X11_hours_z d hM hO hH hn0 h0
    · exact y_X11_hours_p d hM hO hH hn0 (by omega)
  · exact y_X11_hours_no d hM hO hH hn
theorem y_X11_later_ok {n : Nat} {sl : Nat × Nat} {kd : Nat → Nat × Nat} {I : Nat → Nat → Int32} {L : Nat → Nat → Int64} {Rf : Nat → Nat → Option Nat} (d : Nat) {T : zT} {H : Nat} (hM : zM n kd I L Rf T) (hO : zOk H T) (hH : H ≤ 1000000000) {n0 : Nat} (hn : n0 ≤ 99)  : zq mX11_later (d + 400) [.ref 112, .int (nI n0)] (n, sl, kd, I, L, Rf) (zpM n sl kd I L Rf (some (.int (s_later T (nI n0)).1)) (s_later T (nI n0)).2) := by
  have hF := hM.F; have hc7 := hO.c
  have hsp : s_later T (nI n0) = (100 + zhk T T.x n0 22, T.w_rw [(zhk T T.x n0 23 - T.x 23).toInt64, (zhk T T.x n0 21).toInt64]) := (by unfold s_later; rw [if_pos ⟨(z_n9 (N := 99) hn (by decide)).1, (z_n9 (N := 99) hn (by decide)).2⟩, nI_clamp (by omega)])
  rw [hsp]
  intro f B
  refine ez_meth pn_X.2.2.2.2.2.2.2.2.2.2.2 (Nat.le_of_ble_eq_true rfl) ?_
  show ez_P _ _ _ _ _ _ 0 [(0, .ref 112), (1, .int (nI n0))] [] (n, sl, kd, I, L, Rf) _
  refine ez_aload_n (i := 0) dX11_later_0 rfl rfl ?_
  refine ez_iconst (v := 0) dX11_later_1 (by decide) ?_
  refine ez_pI dX11_later_2 plX11_89 (hF.lt (by decide)) (hF.lx (by decide)) (hF.kc (by decide) rfl) rfl rfl ?_
  refine ez_nmI (fun I1 hI1 => ?_)
  have hQ2 : zQ n kd I L Rf I I1 L T (I 124) (I 112 25) := by rw [hI1]; exact zQ.start hM
  refine ez_iload_n (i := 1) dX11_later_5 rfl rfl ?_
  refine ez_iconst (v := 0) dX11_later_6 (by decide) ?_
  refine ez_bipush (v := 99) dX11_later_7 (by decide) ?_
  refine ez_callS (M1 := mX11_in) (rest := []) dX11_later_9 mlX11_98 msX11_in rfl (Nat.le_of_ble_eq_true rfl) rfl (zq_b1 (z_n9 (N := 99) hn (by decide)) (zq_b (q_X11_in (d + 399) (nI n0) 0 99) (n, sl, kd, I1, L, Rf))) eb_rok ?_
  rintro _ _ ⟨rfl, rfl⟩
  show ez_P _ _ _ _ _ _ 12 [(0, .ref 112), (1, .int (nI n0))] (.int 1 :: []) _ _
  refine ez_if_ne (tgt := 17) dX11_later_12 (by decide) (fun c3 => ?_) (fun c3 => absurd (by decide) c3)
  refine ez_aload_n (i := 0) dX11_later_17 rfl rfl ?_
  refine ez_iload_n (i := 1) dX11_later_18 rfl rfl ?_
  refine ez_callV (M1 := mX11_goThen) (rest := []) dX11_later_19 mlX11_280 mvX11_goThen rfl (hF.lt (by decide)) (hF.kc (by decide) rfl) (Nat.le_of_ble_eq_true rfl) rfl (y_X11_goThen (I := I1) (N := n0) (d + 87) hQ2.M.W hc7 hQ2.M.x hO.x (by omega) (by omega) hO.wm hO.wd) zpH_ok ?_
  rintro _ _ ⟨rfl, I4, rfl, hq5⟩
  show ez_P _ _ _ _ _ _ 22 [(0, .ref 112), (1, .int (nI n0))] [] (n, sl, kd, I4, L, Rf) _
  have hQ6 : zQ n kd I L Rf I I4 L T (zhk T T.x n0) (zhc T T.x n0) := by exact hQ2.hp hq5
  refine ez_aload_n (i := 0) dX11_later_22 rfl rfl ?_
  refine ez_iconst (v := 0) dX11_later_23 (by decide) ?_
  refine ez_pI dX11_later_24 plX11_92 (hF.lt (by decide)) (hF.lx (by decide)) (hF.kc (by decide) rfl) rfl rfl ?_
  refine ez_nmI (fun I7 hI7 => ?_)
  have hQ8 : zQ n kd I L Rf I I7 L (T.w_rw []) (zhk T T.x n0) (zhc T T.x n0) := by rw [hI7]; exact hQ6.row0
  refine ez_aload_n (i := 0) dX11_later_27 rfl rfl ?_
  refine ez_aload_n (i := 0) dX11_later_28 rfl rfl ?_
  refine ez_getR dX11_later_29 flX11_49 (hF.lt (by decide)) (hF.kc (by decide) rfl) (hF.pt 117 rfl) ?_
  refine ez_bipush (v := 23) dX11_later_32 (by decide) ?_
  refine ez_iaN (k := 23) dX11_later_34 (hF.lt (by decide)) (hF.ka (by decide) rfl) (by omega) (by decide) ?_
  refine ez_topE (y := (zhk T T.x n0) 23) (hQ8.x _ (by decide)) ?_
  refine ez_aload_n (i := 0) dX11_later_35 rfl rfl ?_
  refine ez_getR dX11_later_36 flX11_9 (hF.lt (by decide)) (hF.kc (by decide) rfl) (hF.pt 107 rfl) ?_
  refine ez_bipush (v := 23) dX11_later_39 (by decide) ?_
  refine ez_iaN (k := 23) dX11_later_41 (hF.lt (by decide)) (hF.ka (by decide) rfl) (by omega) (by decide) ?_
  refine ez_topE (y := T.x 23) (hQ8.M.x _ (by decide)) ?_
  refine ez_isub dX11_later_42 ?_
  refine ez_i2l dX11_later_43 rfl ?_
  refine ez_callV (M1 := mX11_tell) (rest := []) dX11_later_44 mlX11_252 mvX11_tell rfl (hF.lt (by decide)) (hF.kc (by decide) rfl) (Nat.le_of_ble_eq_true rfl) rfl (y_X11_tell (I := I7) (L := L) (d + 399) hF (k := 0) hQ8.M.rw.1 (by decide) ((((zhk T T.x n0) 23) - (T.x 23)).toInt64)) (eb_vok rfl) ?_
  rintro _ _ ⟨rfl, rfl⟩
  refine ez_nmI (fun I9 hI9 => ?_)
  refine ez_nmL (fun L10 hL10 => ?_)
  show ez_P _ _ _ _ _ _ 47 [(0, .ref 112), (1, .int (nI n0))] [] (n, sl, kd, I9, L10, Rf) _
  have hQ11 : zQ n kd I L Rf I I9 L10 (T.w_rw [(((zhk T T.x n0) 23) - (T.x 23)).toInt64]) (zhk T T.x n0) (zhc T T.x n0) := by rw [hI9, hL10]; exact hQ8.tell ((((zhk T T.x n0) 23) - (T.x 23)).toInt64)
  refine ez_aload_n (i := 0) dX11_later_47 rfl rfl ?_
  refine ez_aload_n (i := 0) dX11_later_48 rfl rfl ?_
  refine ez_getR dX11_later_49 flX11_49 (hF.lt (by decide)) (hF.kc (by decide) rfl) (hF.pt 117 rfl) ?_
  refine ez_bipush (v := 21) dX11_later_52 (by decide) ?_
  refine ez_iaN (k := 21) dX11_later_54 (hF.lt (by decide)) (hF.ka (by decide) rfl) (by omega) (by decide) ?_
  refine ez_topE (y := (zhk T T.x n0) 21) (hQ11.x _ (by decide)) ?_
  refine ez_i2l dX11_later_55 rfl ?_
  refine ez_callV (M1 := mX11_tell) (rest := []) dX11_later_56 mlX11_252 mvX11_tell rfl (hF.lt (by decide)) (hF.kc (by decide) rfl) (Nat.le_of_ble_eq_true rfl) rfl (y_X11_tell (I := I9) (L := L10) (d + 399) hF (k := 1) hQ11.M.rw.1 (by decide) (((zhk T T.x n0) 21).toInt64)) (eb_vok rfl) ?_
  rintro _ _ ⟨rfl, rfl⟩
  refine ez_nmI (fun I12 hI12 => ?_)
  refine ez_nmL (fun L13 hL13 => ?_)
  show ez_P _ _ _ _ _ _ 59 [(0, .ref 112), (1, .int (nI n0))] [] (n, sl, kd, I12, L13, Rf) _
  have hQ14 : zQ n kd I L Rf I I12 L13 (T.w_rw [(((zhk T T.x n0) 23) - (T.x 23)).toInt64, ((zhk T T.x n0) 21).toInt64]) (zhk T T.x n0) (zhc T T.x n0) := by rw [hI12, hL13]; exact hQ11.tell (((zhk T T.x n0) 21).toInt64)
  refine ez_bipush (v := 100) dX11_later_59 (by decide) ?_
  refine ez_aload_n (i := 0) dX11_later_61 rfl rfl ?_
  refine ez_getR dX11_later_62 flX11_49 (hF.lt (by decide)) (hF.kc (by decide) rfl) (hF.pt 117 rfl) ?_
  refine ez_bipush (v := 22) dX11_later_65 (by decide) ?_
  refine ez_iaN (k := 22) dX11_later_67 (hF.lt (by decide)) (hF.ka (by decide) rfl) (by omega) (by decide) ?_
  refine ez_topE (y := (zhk T T.x n0) 22) (hQ14.x _ (by decide)) ?_
  refine ez_iadd dX11_later_68 ?_
  refine ez_iret dX11_later_69 rfl rfl ?_
  exact hQ14.end
theorem y_X11_later_no {n : Nat} {sl : Nat × Nat} {kd : Nat → Nat × Nat} {I : Nat → Nat → Int32} {L : Nat → Nat → Int64} {Rf : Nat → Nat → Option Nat} (d : Nat) {T : zT} {H : Nat} (hM : zM n kd I L Rf T) (hO : zOk H T) (hH : H ≤ 1000000000) {v : Int32} (hn : ¬ (0 ≤ v ∧ v ≤ 99))  : zq mX11_later (d + 400) [.ref 112, .int v] (n, sl, kd, I, L, Rf) (zpM n sl kd I L Rf (some (.int (s_later T v).1)) (s_later T v).2) := by
  have hF := hM.F; have hc7 := hO.c
  have hsp : s_later T v = ((-1), T) := (by unfold s_later; rw [if_neg hn])
  rw [hsp]
  intro f B
  refine ez_meth pn_X.2.2.2.2.2.2.2.2.2.2.2 (Nat.le_of_ble_eq_true rfl) ?_
  show ez_P _ _ _ _ _ _ 0 [(0, .ref 112), (1, .int v)] [] (n, sl, kd, I, L, Rf) _
  refine ez_aload_n (i := 0) dX11_later_0 rfl rfl ?_
  refine ez_iconst (v := 0) dX11_later_1 (by decide) ?_
  refine ez_pI dX11_later_2 plX11_89 (hF.lt (by decide)) (hF.lx (by decide)) (hF.kc (by decide) rfl) rfl rfl ?_
  refine ez_nmI (fun I1 hI1 => ?_)
  have hQ2 : zQ n kd I L Rf I I1 L T (I 124) (I 112 25) := by rw [hI1]; exact zQ.start hM
  refine ez_iload_n (i := 1) dX11_later_5 rfl rfl ?_
  refine ez_iconst (v := 0) dX11_later_6 (by decide) ?_
  refine ez_bipush (v := 99) dX11_later_7 (by decide) ?_
  refine ez_callS (M1 := mX11_in) (rest := []) dX11_later_9 mlX11_98 msX11_in rfl (Nat.le_of_ble_eq_true rfl) rfl (zq_b0 hn (zq_b (q_X11_in (d + 399) v 0 99) (n, sl, kd, I1, L, Rf))) eb_rok ?_
  rintro _ _ ⟨rfl, rfl⟩
  show ez_P _ _ _ _ _ _ 12 [(0, .ref 112), (1, .int v)] (.int 0 :: []) _ _
  refine ez_if_ne (tgt := 17) dX11_later_12 (by decide) (fun c3 => absurd c3 (by decide)) (fun c3 => ?_)
  refine ez_iconst (v := (-1)) dX11_later_15 (by decide) ?_
  refine ez_iret dX11_later_16 rfl rfl ?_
  exact hQ2.end
theorem y_X11_later {n : Nat} {sl : Nat × Nat} {kd : Nat → Nat × Nat} {I : Nat → Nat → Int32} {L : Nat → Nat → Int64} {Rf : Nat → Nat → Option Nat} (d : Nat) {T : zT} {H : Nat} (hM : zM n kd I L Rf T) (hO : zOk H T) (hH : H ≤ 1000000000) (v : Int32) : zq mX11_later (d + 400) [.ref 112, .int v] (n, sl, kd, I, L, Rf) (zpM n sl kd I L Rf (some (.int (s_later T v).1)) (s_later T v).2) := by
  by_cases hn : 0 ≤ v ∧ v ≤ 99
  · obtain ⟨n0, _, hn0, rfl⟩ := z_pk1 (lo := 0) (N := 99) hn (by decide) (by decide)
    exact y_X11_later_ok d hM hO hH hn0
  · exact y_X11_later_no d hM hO hH hn
theorem y_X11_over {n : Nat} {sl : Nat × Nat} {kd : Nat → Nat × Nat} {I : Nat → Nat → Int32} {L : Nat → Nat → Int64} {Rf : Nat → Nat → Option Nat} (d : Nat) {T : zT} {H : Nat} (hM : zM n kd I L Rf T) (hO : zOk H T) (hH : H ≤ 1000000000)  : zq mX11_over (d + 400) [.ref 112] (n, sl, kd, I, L, Rf) (zpM n sl kd I L Rf (some (.int (s_over T).1)) (s_over T).2) := by
  have hF := hM.F; have hc7 := hO.c
  intro f B
  refine ez_meth pn_X.2.2.2.2.2.2.2.2.2.2.2 (Nat.le_of_ble_eq_true rfl) ?_
  show ez_P _ _ _ _ _ _ 0 [(0, .ref 112)] [] (n, sl, kd, I, L, Rf) _
  refine ez_aload_n (i := 0) dX11_over_0 rfl rfl ?_
  refine ez_iconst (v := 0) dX11_over_1 (by decide) ?_
  refine ez_pI dX11_over_2 plX11_89 (hF.lt (by decide)) (hF.lx (by decide)) (hF.kc (by decide) rfl) rfl rfl ?_
  refine ez_nmI (fun I1 hI1 => ?_)
  have hQ2 : zQ n kd I L Rf I I1 L T (I 124) (I 112 25) := by rw [hI1]; exact zQ.start hM
  refine ez_aload_n (i := 0) dX11_over_5 rfl rfl ?_
  refine ez_iconst (v := 0) dX11_over_6 (by decide) ?_
  refine ez_callV (M1 := mX11_goThen) (rest := []) dX11_over_7 mlX11_280 mvX11_goThen rfl (hF.lt (by decide)) (hF.kc (by decide) rfl) (Nat.le_of_ble_eq_true rfl) rfl (y_X11_goThen (I := I1) (N := 0) (d + 87) hQ2.M.W hc7 hQ2.M.x hO.x (by omega) (by omega) hO.wm hO.wd) zpH_ok ?_
  rintro _ _ ⟨rfl, I3, rfl, hq4⟩
  show ez_P _ _ _ _ _ _ 10 [(0, .ref 112)] [] (n, sl, kd, I3, L, Rf) _
  have hQ5 : zQ n kd I L Rf I I3 L T (zhk T T.x 0) (zhc T T.x 0) := by exact hQ2.hp hq4
  refine ez_iconst (v := 1) dX11_over_10 (by decide) ?_
  refine ez_istore_n (l' := [(1, .int 1), (0, .ref 112)]) dX11_over_11 rfl (by decide) rfl ?_
  refine ez_eq (l2 := [(1, .int (nI (0 + 1))), (0, .ref 112)]) (σ2 := (n, sl, kd, I3, L, Rf)) rfl rfl rfl rfl ?_
  refine ez_for 99 (fun k (a : (Nat → Nat → Int32) × (Nat → Nat → Int64)) => ([(1, .int (nI (k + 1))), (0, .ref 112)], (n, sl, kd, a.1, a.2, Rf))) (fun k a => zQ n kd I L Rf I a.1 a.2 T (zhk T T.x k) (zhc T T.x k) ∧ zfd (p_over T) (99 - k) k = zfd (p_over T) 99 0) ?_ ?_ 99 0 (I3, L) (by omega) ⟨hQ5, rfl⟩
  · rintro k ⟨Ia, La⟩ hk ⟨hQ0, hex⟩ ih
    have hQ0 : zQ n kd I L Rf I Ia La T (zhk T T.x k) (zhc T T.x k) := hQ0
    have hex : zfd (p_over T) (99 - k) k = zfd (p_over T) 99 0 := hex
    show ez_P _ _ _ _ _ _ 12 [(1, .int (nI (k + 1))), (0, .ref 112)] [] (n, sl, kd, Ia, La, Rf) _
    refine ez_iload_n (i := 1) dX11_over_12 rfl rfl ?_
    refine ez_bipush (v := 99) dX11_over_13 (by decide) ?_
    refine ez_icmp_gt (tgt := 64) dX11_over_15 (by decide) (fun c6 => absurd c6 (Int32.not_lt.mpr (nI_le (b := 99) (by omega) (by decide)))) (fun c6 => ?_)
    refine ez_aload_n (i := 0) dX11_over_18 rfl rfl ?_
    refine ez_aload_n (i := 0) dX11_over_19 rfl rfl ?_
    refine ez_getR dX11_over_20 flX11_49 (hF.lt (by decide)) (hF.kc (by decide) rfl) (hF.pt 117 rfl) ?_
    refine ez_callV (M1 := mX11_goHour) (rest := []) dX11_over_23 mlX11_242 mvX11_goHour rfl (hF.lt (by decide)) (hF.kc (by decide) rfl) (Nat.le_of_ble_eq_true rfl) rfl (y_X11_goHour (I := Ia) (d + 89) hQ0.M.W hc7 (Or.inr rfl) hQ0.x (zhk_xr hO.x hO.wm.1 hO.wd hO.c k) (by omega) hO.wm hO.wd) zpH_ok ?_
    rintro _ _ ⟨rfl, I7, rfl, hq8⟩
    show ez_P _ _ _ _ _ _ 26 [(1, .int (nI (k + 1))), (0, .ref 112)] [] (n, sl, kd, I7, La, Rf) _
    rw [hQ0.o] at hq8
    have hQ9 : zQ n kd I L Rf I I7 La T (zh1 T (zhw T (zhk T T.x k)) (zhk T T.x k)) (zhc T T.x k + zho T (zhw T (zhk T T.x k)) (zhk T T.x k)) := by exact hQ0.hp hq8
    refine ez_aload_n (i := 0) dX11_over_26 rfl rfl ?_
    refine ez_getI dX11_over_27 flX11_235 (hF.lt (by decide)) (hF.kc (by decide) rfl) ?_
    refine ez_topE (y := zhc T T.x k + zho T (zhw T (zhk T T.x k)) (zhk T T.x k)) hQ9.o ?_
    refine ez_if_ne (tgt := 36) dX11_over_30 (by decide) (fun c10 => ?_) (fun c10 => ?_)
    · skip
      refine ez_aload_n (i := 0) dX11_over_36 rfl rfl ?_
      refine ez_iconst (v := 0) dX11_over_37 (by decide) ?_
      refine ez_pI dX11_over_38 plX11_92 (hF.lt (by decide)) (hF.lx (by decide)) (hF.kc (by decide) rfl) rfl rfl ?_
      refine ez_nmI (fun I11 hI11 => ?_)
      have hQ12 : zQ n kd I L Rf I I11 La (T.w_rw []) (zh1 T (zhw T (zhk T T.x k)) (zhk T T.x k)) (zhc T T.x k + zho T (zhw T (zhk T T.x k)) (zhk T T.x k)) := by rw [hI11]; exact hQ9.row0
      refine ez_aload_n (i := 0) dX11_over_41 rfl rfl ?_
      refine ez_bipush (v := 100) dX11_over_42 (by decide) ?_
      refine ez_aload_n (i := 0) dX11_over_44 rfl rfl ?_
      refine ez_getR dX11_over_45 flX11_49 (hF.lt (by decide)) (hF.kc (by decide) rfl) (hF.pt 117 rfl) ?_
      refine ez_bipush (v := 22) dX11_over_48 (by decide) ?_
      refine ez_iaN (k := 22) dX11_over_50 (hF.lt (by decide)) (hF.ka (by decide) rfl) (by omega) (by decide) ?_
      refine ez_topE (y := (zh1 T (zhw T (zhk T T.x k)) (zhk T T.x k)) 22) (hQ12.x _ (by decide)) ?_
      refine ez_iadd dX11_over_51 ?_
      refine ez_i2l dX11_over_52 rfl ?_
      refine ez_callV (M1 := mX11_tell) (rest := []) dX11_over_53 mlX11_252 mvX11_tell rfl (hF.lt (by decide)) (hF.kc (by decide) rfl) (Nat.le_of_ble_eq_true rfl) rfl (y_X11_tell (I := I11) (L := La) (d + 399) hF (k := 0) hQ12.M.rw.1 (by decide) ((100 + ((zh1 T (zhw T (zhk T T.x k)) (zhk T T.x k)) 22)).toInt64)) (eb_vok rfl) ?_
      rintro _ _ ⟨rfl, rfl⟩
      refine ez_nmI (fun I13 hI13 => ?_)
      refine ez_nmL (fun L14 hL14 => ?_)
      show ez_P _ _ _ _ _ _ 56 [(1, .int (nI (k + 1))), (0, .ref 112)] [] (n, sl, kd, I13, L14, Rf) _
      have hQ15 : zQ n kd I L Rf I I13 L14 (T.w_rw [(100 + ((zh1 T (zhw T (zhk T T.x k)) (zhk T T.x k)) 22)).toInt64]) (zh1 T (zhw T (zhk T T.x k)) (zhk T T.x k)) (zhc T T.x k + zho T (zhw T (zhk T T.x k)) (zhk T T.x k)) := by rw [hI13, hL14]; exact hQ12.tell ((100 + ((zh1 T (zhw T (zhk T T.x k)) (zhk T T.x k)) 22)).toInt64)
      refine ez_iload_n (i := 1) dX11_over_56 rfl rfl ?_
      refine ez_iret dX11_over_57 rfl rfl ?_
      rw [show s_over T = (nI (k + 1), T.w_rw [(100 + zhk T T.x (k + 1) 22).toInt64]) from by unfold s_over; rw [zfd_hit hex hk (by unfold p_over; simp only [decide_eq_true_eq]; exact c10)]]
      exact hQ15.end
    · skip
      refine ez_goto (tgt := 58) dX11_over_33 (by decide) ?_
      refine ez_iinc (v := (nI (k + 2))) (l' := [(1, .int ((nI (k + 2)))), (0, .ref 112)]) dX11_over_58 rfl (nI_1 _) (by decide) rfl ?_
      refine ez_goto (tgt := 12) dX11_over_61 (by decide) ?_
      exact ez_eq (l2 := [(1, .int (nI (k + 1 + 1))), (0, .ref 112)]) rfl rfl rfl rfl (ih (I7, La) ⟨hQ9, zfd_step hex hk (by unfold p_over; simp only [decide_eq_true_eq]; exact fun g => c10 g)⟩)
  · rintro ⟨Ia, La⟩ ⟨hQ0, hex⟩
    have hQ0 : zQ n kd I L Rf I Ia La T (zhk T T.x 99) (zhc T T.x 99) := hQ0
    have hex : zfd (p_over T) (99 - 99) 99 = zfd (p_over T) 99 0 := hex
    show ez_P _ _ _ _ _ _ 12 [(1, .int (nI (99 + 1))), (0, .ref 112)] [] (n, sl, kd, Ia, La, Rf) _
    refine ez_iload_n (i := 1) dX11_over_12 rfl rfl ?_
    refine ez_bipush (v := 99) dX11_over_13 (by decide) ?_
    refine ez_icmp_gt (tgt := 64) dX11_over_15 (by decide) (fun c16 => ?_) (fun c16 => absurd (by decide) c16)
    refine ez_bipush (v := (-2)) dX11_over_64 (by decide) ?_
    refine ez_iret dX11_over_66 rfl rfl ?_
    rw [show s_over T = (-2, T) from by unfold s_over; rw [zfd_end hex]]
    exact hQ0.end
theorem y_X11_makes_ok {n : Nat} {sl : Nat × Nat} {kd : Nat → Nat × Nat} {I : Nat → Nat → Int32} {L : Nat → Nat → Int64} {Rf : Nat → Nat → Option Nat} (d : Nat) {T : zT} {H : Nat} (hM : zM n kd I L Rf T) (hO : zOk H T) (hH : H ≤ 1000000000) {v : Int32} (hn : 0 ≤ v ∧ v ≤ 9999)  : zq mX11_makes (d + 400) [.ref 112, .int v] (n, sl, kd, I, L, Rf) (zpM n sl kd I L Rf (some (.int (s_makes T v).1)) (s_makes T v).2) := by
  have hF := hM.F; have hc7 := hO.c
  intro f B
  refine ez_meth pn_X.2.2.2.2.2.2.2.2.2.2.2 (Nat.le_of_ble_eq_true rfl) ?_
  show ez_P _ _ _ _ _ _ 0 [(0, .ref 112), (1, .int v)] [] (n, sl, kd, I, L, Rf) _
  refine ez_aload_n (i := 0) dX11_makes_0 rfl rfl ?_
  refine ez_iconst (v := 0) dX11_makes_1 (by decide) ?_
  refine ez_pI dX11_makes_2 plX11_89 (hF.lt (by decide)) (hF.lx (by decide)) (hF.kc (by decide) rfl) rfl rfl ?_
  refine ez_nmI (fun I1 hI1 => ?_)
  have hQ2 : zQ n kd I L Rf I I1 L T (I 124) (I 112 25) := by rw [hI1]; exact zQ.start hM
  refine ez_iload_n (i := 1) dX11_makes_5 rfl rfl ?_
  refine ez_iconst (v := 0) dX11_makes_6 (by decide) ?_
  refine ez_sipush (v := 9999) dX11_makes_7 (by decide) ?_
  refine ez_callS (M1 := mX11_in) (rest := []) dX11_makes_10 mlX11_98 msX11_in rfl (Nat.le_of_ble_eq_true rfl) rfl (zq_b1 hn (zq_b (q_X11_in (d + 399) v 0 9999) (n, sl, kd, I1, L, Rf))) eb_rok ?_
  rintro _ _ ⟨rfl, rfl⟩
  show ez_P _ _ _ _ _ _ 13 [(0, .ref 112), (1, .int v)] (.int 1 :: []) _ _
  refine ez_if_ne (tgt := 18) dX11_makes_13 (by decide) (fun c3 => ?_) (fun c3 => absurd (by decide) c3)
  refine ez_aload_n (i := 0) dX11_makes_18 rfl rfl ?_
  refine ez_getR dX11_makes_19 flX11_9 (hF.lt (by decide)) (hF.kc (by decide) rfl) (hF.pt 107 rfl) ?_
  refine ez_aload_n (i := 0) dX11_makes_22 rfl rfl ?_
  refine ez_getR dX11_makes_23 flX11_49 (hF.lt (by decide)) (hF.kc (by decide) rfl) (hF.pt 117 rfl) ?_
  refine ez_iconst (v := 0) dX11_makes_26 (by decide) ?_
  refine ez_callS (M1 := mX11_lay) (rest := []) dX11_makes_27 mlX11_231 msX11_lay rfl (Nat.le_of_ble_eq_true rfl) rfl (y_lay0 (I := I1) (L := L) (d + 399) hF) (eb_vok rfl) ?_
  rintro _ _ ⟨rfl, rfl⟩
  refine ez_nmI (fun I4 hI4 => ?_)
  show ez_P _ _ _ _ _ _ 30 [(0, .ref 112), (1, .int v)] [] (n, sl, kd, I4, L, Rf) _
  have hQ5 : zQ n kd I L Rf I I4 L T T.x (I 112 25) := by rw [hI4]; exact hQ2.lay
  refine ez_iconst (v := 0) dX11_makes_30 (by decide) ?_
  refine ez_istore_n (l' := [(2, .int 0), (0, .ref 112), (1, .int v)]) dX11_makes_31 rfl (by decide) rfl ?_
  refine ez_eq (l2 := [(2, .int (nI 0)), (0, .ref 112), (1, .int v)]) (σ2 := (n, sl, kd, I4, L, Rf)) rfl rfl rfl rfl ?_
  refine ez_for 100 (fun k (a : (Nat → Nat → Int32) × (Nat → Nat → Int64) × Int32) => ([(2, .int (nI k)), (0, .ref 112), (1, .int v)], (n, sl, kd, a.1, a.2.1, Rf))) (fun k a => zQ n kd I L Rf I a.1 a.2.1 T (zhk T T.x k) a.2.2 ∧ zfd (p_makes T v) (100 - k) k = zfd (p_makes T v) 100 0) ?_ ?_ 100 0 (I4, L, I 112 25) (by omega) ⟨hQ5, rfl⟩
  · rintro k ⟨Ia, La, oa⟩ hk ⟨hQ0, hex⟩ ih
    have hQ0 : zQ n kd I L Rf I Ia La T (zhk T T.x k) oa := hQ0
    have hex : zfd (p_makes T v) (100 - k) k = zfd (p_makes T v) 100 0 := hex
    show ez_P _ _ _ _ _ _ 32 [(2, .int (nI k)), (0, .ref 112), (1, .int v)] [] (n, sl, kd, Ia, La, Rf) _
    refine ez_iload_n (i := 2) dX11_makes_32 rfl rfl ?_
    refine ez_bipush (v := 99) dX11_makes_33 (by decide) ?_
    refine ez_icmp_gt (tgt := 94) dX11_makes_35 (by decide) (fun c6 => absurd c6 (Int32.not_lt.mpr (nI_le (b := 99) (by omega) (by decide)))) (fun c6 => ?_)
    refine ez_aload_n (i := 0) dX11_makes_38 rfl rfl ?_
    refine ez_getR dX11_makes_39 flX11_49 (hF.lt (by decide)) (hF.kc (by decide) rfl) (hF.pt 117 rfl) ?_
    refine ez_bipush (v := 23) dX11_makes_42 (by decide) ?_
    refine ez_iaN (k := 23) dX11_makes_44 (hF.lt (by decide)) (hF.ka (by decide) rfl) (by omega) (by decide) ?_
    refine ez_topE (y := (zhk T T.x k) 23) (hQ0.x _ (by decide)) ?_
    refine ez_iload_n (i := 1) dX11_makes_45 rfl rfl ?_
    refine ez_icmp_lt (tgt := 80) dX11_makes_46 (by decide) (fun c7 => ?_) (fun c7 => ?_)
    · skip
      refine ez_aload_n (i := 0) dX11_makes_80 rfl rfl ?_
      refine ez_aload_n (i := 0) dX11_makes_81 rfl rfl ?_
      refine ez_getR dX11_makes_82 flX11_49 (hF.lt (by decide)) (hF.kc (by decide) rfl) (hF.pt 117 rfl) ?_
      refine ez_callV (M1 := mX11_goHour) (rest := []) dX11_makes_85 mlX11_242 mvX11_goHour rfl (hF.lt (by decide)) (hF.kc (by decide) rfl) (Nat.le_of_ble_eq_true rfl) rfl (y_X11_goHour (I := Ia) (d + 89) hQ0.M.W hc7 (Or.inr rfl) hQ0.x (zhk_xr hO.x hO.wm.1 hO.wd hO.c k) (by omega) hO.wm hO.wd) zpH_ok ?_
      rintro _ _ ⟨rfl, I8, rfl, hq9⟩
      show ez_P _ _ _ _ _ _ 88 [(2, .int (nI k)), (0, .ref 112), (1, .int v)] [] (n, sl, kd, I8, La, Rf) _
      rw [hQ0.o] at hq9
      have hQ10 : zQ n kd I L Rf I I8 La T (zh1 T (zhw T (zhk T T.x k)) (zhk T T.x k)) (oa + zho T (zhw T (zhk T T.x k)) (zhk T T.x k)) := by exact hQ0.hp hq9
      refine ez_iinc (v := (nI (k + 1))) (l' := [(2, .int ((nI (k + 1)))), (0, .ref 112), (1, .int v)]) dX11_makes_88 rfl (nI_1 _) (by decide) rfl ?_
      refine ez_goto (tgt := 32) dX11_makes_91 (by decide) ?_
      exact ez_eq (l2 := [(2, .int (nI (k + 1))), (0, .ref 112), (1, .int v)]) rfl rfl rfl rfl (ih (I8, La, oa + zho T (zhw T (zhk T T.x k)) (zhk T T.x k)) ⟨hQ10, zfd_step hex hk (by unfold p_makes; simp only [decide_eq_true_eq]; exact fun g => g c7)⟩)
    · skip
      refine ez_aload_n (i := 0) dX11_makes_49 rfl rfl ?_
      refine ez_iconst (v := 0) dX11_makes_50 (by decide) ?_
      refine ez_pI dX11_makes_51 plX11_92 (hF.lt (by decide)) (hF.lx (by decide)) (hF.kc (by decide) rfl) rfl rfl ?_
      refine ez_nmI (fun I11 hI11 => ?_)
      have hQ12 : zQ n kd I L Rf I I11 La (T.w_rw []) (zhk T T.x k) oa := by rw [hI11]; exact hQ0.row0
      refine ez_aload_n (i := 0) dX11_makes_54 rfl rfl ?_
      refine ez_aload_n (i := 0) dX11_makes_55 rfl rfl ?_
      refine ez_getR dX11_makes_56 flX11_49 (hF.lt (by decide)) (hF.kc (by decide) rfl) (hF.pt 117 rfl) ?_
      refine ez_bipush (v := 23) dX11_makes_59 (by decide) ?_
      refine ez_iaN (k := 23) dX11_makes_61 (hF.lt (by decide)) (hF.ka (by decide) rfl) (by omega) (by decide) ?_
      refine ez_topE (y := (zhk T T.x k) 23) (hQ12.x _ (by decide)) ?_
      refine ez_i2l dX11_makes_62 rfl ?_
      refine ez_callV (M1 := mX11_tell) (rest := []) dX11_makes_63 mlX11_252 mvX11_tell rfl (hF.lt (by decide)) (hF.kc (by decide) rfl) (Nat.le_of_ble_eq_true rfl) rfl (y_X11_tell (I := I11) (L := La) (d + 399) hF (k := 0) hQ12.M.rw.1 (by decide) (((zhk T T.x k) 23).toInt64)) (eb_vok rfl) ?_
      rintro _ _ ⟨rfl, rfl⟩
      refine ez_nmI (fun I13 hI13 => ?_)
      refine ez_nmL (fun L14 hL14 => ?_)
      show ez_P _ _ _ _ _ _ 66 [(2, .int (nI k)), (0, .ref 112), (1, .int v)] [] (n, sl, kd, I13, L14, Rf) _
      have hQ15 : zQ n kd I L Rf I I13 L14 (T.w_rw [((zhk T T.x k) 23).toInt64]) (zhk T T.x k) oa := by rw [hI13, hL14]; exact hQ12.tell (((zhk T T.x k) 23).toInt64)
      refine ez_aload_n (i := 0) dX11_makes_66 rfl rfl ?_
      refine ez_aload_n (i := 0) dX11_makes_67 rfl rfl ?_
      refine ez_getR dX11_makes_68 flX11_49 (hF.lt (by decide)) (hF.kc (by decide) rfl) (hF.pt 117 rfl) ?_
      refine ez_bipush (v := 21) dX11_makes_71 (by decide) ?_
      refine ez_iaN (k := 21) dX11_makes_73 (hF.lt (by decide)) (hF.ka (by decide) rfl) (by omega) (by decide) ?_
      refine ez_topE (y := (zhk T T.x k) 21) (hQ15.x _ (by decide)) ?_
      refine ez_i2l dX11_makes_74 rfl ?_
      refine ez_callV (M1 := mX11_tell) (rest := []) dX11_makes_75 mlX11_252 mvX11_tell rfl (hF.lt (by decide)) (hF.kc (by decide) rfl) (Nat.le_of_ble_eq_true rfl) rfl (y_X11_tell (I := I13) (L := L14) (d + 399) hF (k := 1) hQ15.M.rw.1 (by decide) (((zhk T T.x k) 21).toInt64)) (eb_vok rfl) ?_
      rintro _ _ ⟨rfl, rfl⟩
      refine ez_nmI (fun I16 hI16 => ?_)
      refine ez_nmL (fun L17 hL17 => ?_)
      show ez_P _ _ _ _ _ _ 78 [(2, .int (nI k)), (0, .ref 112), (1, .int v)] [] (n, sl, kd, I16, L17, Rf) _
      have hQ18 : zQ n kd I L Rf I I16 L17 (T.w_rw [((zhk T T.x k) 23).toInt64, ((zhk T T.x k) 21).toInt64]) (zhk T T.x k) oa := by rw [hI16, hL17]; exact hQ15.tell (((zhk T T.x k) 21).toInt64)
      refine ez_iload_n (i := 2) dX11_makes_78 rfl rfl ?_
      refine ez_iret dX11_makes_79 rfl rfl ?_
      rw [show s_makes T v = (nI k, T.w_rw [(zhk T T.x k 23).toInt64, (zhk T T.x k 21).toInt64]) from by unfold s_makes; rw [if_pos hn, zfd_hit hex hk (by unfold p_makes; simp only [decide_eq_true_eq]; exact c7)]]
      exact hQ18.end
  · rintro ⟨Ia, La, oa⟩ ⟨hQ0, hex⟩
    have hQ0 : zQ n kd I L Rf I Ia La T (zhk T T.x 100) oa := hQ0
    have hex : zfd (p_makes T v) (100 - 100) 100 = zfd (p_makes T v) 100 0 := hex
    show ez_P _ _ _ _ _ _ 32 [(2, .int (nI 100)), (0, .ref 112), (1, .int v)] [] (n, sl, kd, Ia, La, Rf) _
    refine ez_iload_n (i := 2) dX11_makes_32 rfl rfl ?_
    refine ez_bipush (v := 99) dX11_makes_33 (by decide) ?_
    refine ez_icmp_gt (tgt := 94) dX11_makes_35 (by decide) (fun c19 => ?_) (fun c19 => absurd (by decide) c19)
    refine ez_bipush (v := (-2)) dX11_makes_94 (by decide) ?_
    refine ez_iret dX11_makes_96 rfl rfl ?_
    rw [show s_makes T v = (-2, T) from by unfold s_makes; rw [if_pos hn, zfd_end hex]]
    exact hQ0.end
theorem y_X11_makes_no {n : Nat} {sl : Nat × Nat} {kd : Nat → Nat × Nat} {I : Nat → Nat → Int32} {L : Nat → Nat → Int64} {Rf : Nat → Nat → Option Nat} (d : Nat) {T : zT} {H : Nat} (hM : zM n kd I L Rf T) (hO : zOk H T) (hH : H ≤ 1000000000) {v : Int32} (hn : ¬ (0 ≤ v ∧ v ≤ 9999))  : zq mX11_makes (d + 400) [.ref 112, .int v] (n, sl, kd, I, L, Rf) (zpM n sl kd I L Rf (some (.int (s_makes T v).1)) (s_makes T v).2) := by
  have hF := hM.F; have hc7 := hO.c
  have hsp : s_makes T v = ((-1), T) := (by unfold s_makes; rw [if_neg hn])
  rw [hsp]
  intro f B
  refine ez_meth pn_X.2.2.2.2.2.2.2.2.2.2.2 (Nat.le_of_ble_eq_true rfl) ?_
  show ez_P _ _ _ _ _ _ 0 [(0, .ref 112), (1, .int v)] [] (n, sl, kd, I, L, Rf) _
  refine ez_aload_n (i := 0) dX11_makes_0 rfl rfl ?_
  refine ez_iconst (v := 0) dX11_makes_1 (by decide) ?_
  refine ez_pI dX11_makes_2 plX11_89 (hF.lt (by decide)) (hF.lx (by decide)) (hF.kc (by decide) rfl) rfl rfl ?_
  refine ez_nmI (fun I1 hI1 => ?_)
  have hQ2 : zQ n kd I L Rf I I1 L T (I 124) (I 112 25) := by rw [hI1]; exact zQ.start hM
  refine ez_iload_n (i := 1) dX11_makes_5 rfl rfl ?_
  refine ez_iconst (v := 0) dX11_makes_6 (by decide) ?_
  refine ez_sipush (v := 9999) dX11_makes_7 (by decide) ?_
  refine ez_callS (M1 := mX11_in) (rest := []) dX11_makes_10 mlX11_98 msX11_in rfl (Nat.le_of_ble_eq_true rfl) rfl (zq_b0 hn (zq_b (q_X11_in (d + 399) v 0 9999) (n, sl, kd, I1, L, Rf))) eb_rok ?_
  rintro _ _ ⟨rfl, rfl⟩
  show ez_P _ _ _ _ _ _ 13 [(0, .ref 112), (1, .int v)] (.int 0 :: []) _ _
  refine ez_if_ne (tgt := 18) dX11_makes_13 (by decide) (fun c3 => absurd c3 (by decide)) (fun c3 => ?_)
  refine ez_iconst (v := (-1)) dX11_makes_16 (by decide) ?_
  refine ez_iret dX11_makes_17 rfl rfl ?_
  exact hQ2.end
theorem y_X11_makes {n : Nat} {sl : Nat × Nat} {kd : Nat → Nat × Nat} {I : Nat → Nat → Int32} {L : Nat → Nat → Int64} {Rf : Nat → Nat → Option Nat} (d : Nat) {T : zT} {H : Nat} (hM : zM n kd I L Rf T) (hO : zOk H T) (hH : H ≤ 1000000000) (v : Int32) : zq mX11_makes (d + 400) [.ref 112, .int v] (n, sl, kd, I, L, Rf) (zpM n sl kd I L Rf (some (.int (s_makes T v).1)) (s_makes T v).2) := by
  by_cases hn : 0 ≤ v ∧ v ≤ 9999
  · exact y_X11_makes_ok d hM hO hH hn
  · exact y_X11_makes_no d hM hO hH hn
theorem y_X11_when_ok {n : Nat} {sl : Nat × Nat} {kd : Nat → Nat × Nat} {I : Nat → Nat → Int32} {L : Nat → Nat → Int64} {Rf : Nat → Nat → Option Nat} (d : Nat) {T : zT} {H : Nat} (hM : zM n kd I L Rf T) (hO : zOk H T) (hH : H ≤ 1000000000) {v : Int32} (hn : -20 ≤ v ∧ v ≤ 20)  : zq mX11_when (d + 400) [.ref 112, .int v] (n, sl, kd, I, L, Rf) (zpM n sl kd I L Rf (some (.int (s_when T v).1)) (s_when T v).2) := by
  have hF := hM.F; have hc7 := hO.c
  intro f B
  refine ez_meth pn_X.2.2.2.2.2.2.2.2.2.2.2 (Nat.le_of_ble_eq_true rfl) ?_
  show ez_P _ _ _ _ _ _ 0 [(0, .ref 112), (1, .int v)] [] (n, sl, kd, I, L, Rf) _
  refine ez_aload_n (i := 0) dX11_when_0 rfl rfl ?_
  refine ez_iconst (v := 0) dX11_when_1 (by decide) ?_
  refine ez_pI dX11_when_2 plX11_89 (hF.lt (by decide)) (hF.lx (by decide)) (hF.kc (by decide) rfl) rfl rfl ?_
  refine ez_nmI (fun I1 hI1 => ?_)
  have hQ2 : zQ n kd I L Rf I I1 L T (I 124) (I 112 25) := by rw [hI1]; exact zQ.start hM
  refine ez_iload_n (i := 1) dX11_when_5 rfl rfl ?_
  refine ez_bipush (v := (-20)) dX11_when_6 (by decide) ?_
  refine ez_bipush (v := 20) dX11_when_8 (by decide) ?_
  refine ez_callS (M1 := mX11_in) (rest := []) dX11_when_10 mlX11_98 msX11_in rfl (Nat.le_of_ble_eq_true rfl) rfl (zq_b1 hn (zq_b (q_X11_in (d + 399) v (-20) 20) (n, sl, kd, I1, L, Rf))) eb_rok ?_
  rintro _ _ ⟨rfl, rfl⟩
  show ez_P _ _ _ _ _ _ 13 [(0, .ref 112), (1, .int v)] (.int 1 :: []) _ _
  refine ez_if_ne (tgt := 18) dX11_when_13 (by decide) (fun c3 => ?_) (fun c3 => absurd (by decide) c3)
  refine ez_bipush (v := (-2)) dX11_when_18 (by decide) ?_
  refine ez_istore_n (l' := [(2, .int ((-2))), (0, .ref 112), (1, .int v)]) dX11_when_20 rfl (by decide) rfl ?_
  refine ez_iconst (v := 0) dX11_when_21 (by decide) ?_
  refine ez_istore_n (l' := [(3, .int 0), (2, .int ((-2))), (0, .ref 112), (1, .int v)]) dX11_when_22 rfl (by decide) rfl ?_
  refine ez_aload_n (i := 0) dX11_when_23 rfl rfl ?_
  refine ez_getR dX11_when_24 flX11_9 (hF.lt (by decide)) (hF.kc (by decide) rfl) (hF.pt 107 rfl) ?_
  refine ez_aload_n (i := 0) dX11_when_27 rfl rfl ?_
  refine ez_getR dX11_when_28 flX11_49 (hF.lt (by decide)) (hF.kc (by decide) rfl) (hF.pt 117 rfl) ?_
  refine ez_iconst (v := 0) dX11_when_31 (by decide) ?_
  refine ez_callS (M1 := mX11_lay) (rest := []) dX11_when_32 mlX11_231 msX11_lay rfl (Nat.le_of_ble_eq_true rfl) rfl (y_lay0 (I := I1) (L := L) (d + 399) hF) (eb_vok rfl) ?_
  rintro _ _ ⟨rfl, rfl⟩
  refine ez_nmI (fun I4 hI4 => ?_)
  show ez_P _ _ _ _ _ _ 35 [(3, .int 0), (2, .int ((-2))), (0, .ref 112), (1, .int v)] [] (n, sl, kd, I4, L, Rf) _
  have hQ5 : zQ n kd I L Rf I I4 L T T.x (I 112 25) := by rw [hI4]; exact hQ2.lay
  refine ez_iconst (v := 0) dX11_when_35 (by decide) ?_
  refine ez_istore (l' := [(4, .int 0), (3, .int 0), (2, .int ((-2))), (0, .ref 112), (1, .int v)]) dX11_when_36 (by decide) rfl ?_
  refine ez_eq (l2 := [(4, .int (nI 0)), (3, .int 0), (2, .int ((-2))), (0, .ref 112), (1, .int v)]) (σ2 := (n, sl, kd, I4, L, Rf)) rfl rfl rfl rfl ?_
  refine ez_for 100 (fun k (a : (Nat → Nat → Int32) × (Nat → Nat → Int64) × Int32 × Int32 × Int32) => ([(4, .int (nI k)), (3, .int a.2.2.2.2), (2, .int a.2.2.2.1), (0, .ref 112), (1, .int v)], (n, sl, kd, a.1, a.2.1, Rf))) (fun k a => zQ n kd I L Rf I a.1 a.2.1 T (zhk T T.x k) a.2.2.1 ∧ (a.2.2.2.1, a.2.2.2.2) = a_when T v k) ?_ ?_ 100 0 (I4, L, I 112 25, (-2), 0) (by omega) ⟨hQ5, rfl⟩
  · rintro k ⟨Ia, La, oa, ff, mm⟩ hk ⟨hQ0, hac⟩ ih
    have hQ0 : zQ n kd I L Rf I Ia La T (zhk T T.x k) oa := hQ0
    have hac : (ff, mm) = a_when T v k := hac
    show ez_P _ _ _ _ _ _ 38 [(4, .int (nI k)), (3, .int mm), (2, .int ff), (0, .ref 112), (1, .int v)] [] (n, sl, kd, Ia, La, Rf) _
    refine ez_iload (i := 4) dX11_when_38 rfl ?_
    refine ez_bipush (v := 99) dX11_when_40 (by decide) ?_
    refine ez_icmp_gt (tgt := 86) dX11_when_42 (by decide) (fun c6 => absurd c6 (Int32.not_lt.mpr (nI_le (b := 99) (by omega) (by decide)))) (fun c6 => ?_)
    refine ez_aload_n (i := 0) dX11_when_45 rfl rfl ?_
    refine ez_getR dX11_when_46 flX11_49 (hF.lt (by decide)) (hF.kc (by decide) rfl) (hF.pt 117 rfl) ?_
    refine ez_bipush (v := 22) dX11_when_49 (by decide) ?_
    refine ez_iaN (k := 22) dX11_when_51 (hF.lt (by decide)) (hF.ka (by decide) rfl) (by omega) (by decide) ?_
    refine ez_topE (y := (zhk T T.x k) 22) (hQ0.x _ (by decide)) ?_
    refine ez_iload_n (i := 1) dX11_when_52 rfl rfl ?_
    refine ez_icmp_ne (tgt := 72) dX11_when_53 (by decide) (fun c7 => ?_) (fun c7 => ?_)
    · skip
      refine ez_aload_n (i := 0) dX11_when_72 rfl rfl ?_
      refine ez_aload_n (i := 0) dX11_when_73 rfl rfl ?_
      refine ez_getR dX11_when_74 flX11_49 (hF.lt (by decide)) (hF.kc (by decide) rfl) (hF.pt 117 rfl) ?_
      refine ez_callV (M1 := mX11_goHour) (rest := []) dX11_when_77 mlX11_242 mvX11_goHour rfl (hF.lt (by decide)) (hF.kc (by decide) rfl) (Nat.le_of_ble_eq_true rfl) rfl (y_X11_goHour (I := Ia) (d + 89) hQ0.M.W hc7 (Or.inr rfl) hQ0.x (zhk_xr hO.x hO.wm.1 hO.wd hO.c k) (by omega) hO.wm hO.wd) zpH_ok ?_
      rintro _ _ ⟨rfl, I8, rfl, hq9⟩
      show ez_P _ _ _ _ _ _ 80 [(4, .int (nI k)), (3, .int mm), (2, .int ff), (0, .ref 112), (1, .int v)] [] (n, sl, kd, I8, La, Rf) _
      rw [hQ0.o] at hq9
      have hQ10 : zQ n kd I L Rf I I8 La T (zh1 T (zhw T (zhk T T.x k)) (zhk T T.x k)) (oa + zho T (zhw T (zhk T T.x k)) (zhk T T.x k)) := by exact hQ0.hp hq9
      refine ez_iinc (v := (nI (k + 1))) (l' := [(4, .int ((nI (k + 1)))), (3, .int mm), (2, .int ff), (0, .ref 112), (1, .int v)]) dX11_when_80 rfl (nI_1 _) (by decide) rfl ?_
      refine ez_goto (tgt := 38) dX11_when_83 (by decide) ?_
      exact ez_eq (l2 := [(4, .int (nI (k + 1))), (3, .int mm), (2, .int ff), (0, .ref 112), (1, .int v)]) rfl rfl rfl rfl (ih (I8, La, oa + zho T (zhw T (zhk T T.x k)) (zhk T T.x k), ff, mm) ⟨hQ10, (by rw [a_when, ← hac, b_when]; simp only [if_neg c7])⟩)
    · skip
      refine ez_iload_n (i := 2) dX11_when_56 rfl rfl ?_
      refine ez_bipush (v := (-2)) dX11_when_57 (by decide) ?_
      refine ez_icmp_ne (tgt := 67) dX11_when_59 (by decide) (fun c11 => ?_) (fun c11 => ?_)
      · skip
        refine ez_iload_n (i := 2) dX11_when_67 rfl rfl ?_
        refine ez_istore_n (l' := [(2, .int ff), (4, .int (nI k)), (3, .int mm), (0, .ref 112), (1, .int v)]) dX11_when_68 rfl (by decide) rfl ?_
        refine ez_iinc (v := (mm + 1)) (l' := [(3, .int ((mm + 1))), (2, .int ff), (4, .int (nI k)), (0, .ref 112), (1, .int v)]) dX11_when_69 rfl rfl (by decide) rfl ?_
        refine ez_aload_n (i := 0) dX11_when_72 rfl rfl ?_
        refine ez_aload_n (i := 0) dX11_when_73 rfl rfl ?_
        refine ez_getR dX11_when_74 flX11_49 (hF.lt (by decide)) (hF.kc (by decide) rfl) (hF.pt 117 rfl) ?_
        refine ez_callV (M1 := mX11_goHour) (rest := []) dX11_when_77 mlX11_242 mvX11_goHour rfl (hF.lt (by decide)) (hF.kc (by decide) rfl) (Nat.le_of_ble_eq_true rfl) rfl (y_X11_goHour (I := Ia) (d + 89) hQ0.M.W hc7 (Or.inr rfl) hQ0.x (zhk_xr hO.x hO.wm.1 hO.wd hO.c k) (by omega) hO.wm hO.wd) zpH_ok ?_
        rintro _ _ ⟨rfl, I12, rfl, hq13⟩
        show ez_P _ _ _ _ _ _ 80 [(3, .int ((mm + 1))), (2, .int ff), (4, .int (nI k)), (0, .ref 112), (1, .int v)] [] (n, sl, kd, I12, La, Rf) _
        rw [hQ0.o] at hq13
        have hQ14 : zQ n kd I L Rf I I12 La T (zh1 T (zhw T (zhk T T.x k)) (zhk T T.x k)) (oa + zho T (zhw T (zhk T T.x k)) (zhk T T.x k)) := by exact hQ0.hp hq13
        refine ez_iinc (v := (nI (k + 1))) (l' := [(4, .int ((nI (k + 1)))), (3, .int ((mm + 1))), (2, .int ff), (0, .ref 112), (1, .int v)]) dX11_when_80 rfl (nI_1 _) (by decide) rfl ?_
        refine ez_goto (tgt := 38) dX11_when_83 (by decide) ?_
        exact ez_eq (l2 := [(4, .int (nI (k + 1))), (3, .int ((mm + 1))), (2, .int ff), (0, .ref 112), (1, .int v)]) rfl rfl rfl rfl (ih (I12, La, oa + zho T (zhw T (zhk T T.x k)) (zhk T T.x k), ff, (mm + 1)) ⟨hQ14, (by rw [a_when, ← hac, b_when]; simp only [if_pos (Classical.not_not.mp c7), if_neg c11])⟩)
      · skip
        refine ez_iload (i := 4) dX11_when_62 rfl ?_
        refine ez_goto (tgt := 68) dX11_when_64 (by decide) ?_
        refine ez_istore_n (l' := [(2, .int (nI k)), (4, .int (nI k)), (3, .int mm), (0, .ref 112), (1, .int v)]) dX11_when_68 rfl (by decide) rfl ?_
        refine ez_iinc (v := (mm + 1)) (l' := [(3, .int ((mm + 1))), (2, .int (nI k)), (4, .int (nI k)), (0, .ref 112), (1, .int v)]) dX11_when_69 rfl rfl (by decide) rfl ?_
        refine ez_aload_n (i := 0) dX11_when_72 rfl rfl ?_
        refine ez_aload_n (i := 0) dX11_when_73 rfl rfl ?_
        refine ez_getR dX11_when_74 flX11_49 (hF.lt (by decide)) (hF.kc (by decide) rfl) (hF.pt 117 rfl) ?_
        refine ez_callV (M1 := mX11_goHour) (rest := []) dX11_when_77 mlX11_242 mvX11_goHour rfl (hF.lt (by decide)) (hF.kc (by decide) rfl) (Nat.le_of_ble_eq_true rfl) rfl (y_X11_goHour (I := Ia) (d + 89) hQ0.M.W hc7 (Or.inr rfl) hQ0.x (zhk_xr hO.x hO.wm.1 hO.wd hO.c k) (by omega) hO.wm hO.wd) zpH_ok ?_
        rintro _ _ ⟨rfl, I15, rfl, hq16⟩
        show ez_P _ _ _ _ _ _ 80 [(3, .int ((mm + 1))), (2, .int (nI k)), (4, .int (nI k)), (0, .ref 112), (1, .int v)] [] (n, sl, kd, I15, La, Rf) _
        rw [hQ0.o] at hq16
        have hQ17 : zQ n kd I L Rf I I15 La T (zh1 T (zhw T (zhk T T.x k)) (zhk T T.x k)) (oa + zho T (zhw T (zhk T T.x k)) (zhk T T.x k)) := by exact hQ0.hp hq16
        refine ez_iinc (v := (nI (k + 1))) (l' := [(4, .int ((nI (k + 1)))), (3, .int ((mm + 1))), (2, .int (nI k)), (0, .ref 112), (1, .int v)]) dX11_when_80 rfl (nI_1 _) (by decide) rfl ?_
        refine ez_goto (tgt := 38) dX11_when_83 (by decide) ?_
        exact ez_eq (l2 := [(4, .int (nI (k + 1))), (3, .int ((mm + 1))), (2, .int (nI k)), (0, .ref 112), (1, .int v)]) rfl rfl rfl rfl (ih (I15, La, oa + zho T (zhw T (zhk T T.x k)) (zhk T T.x k), nI k, (mm + 1)) ⟨hQ17, (by rw [a_when, ← hac, b_when]; simp only [if_pos (Classical.not_not.mp c7), if_pos (Classical.not_not.mp c11)])⟩)
  · rintro ⟨Ia, La, oa, ff, mm⟩ ⟨hQ0, hac⟩
    have hQ0 : zQ n kd I L Rf I Ia La T (zhk T T.x 100) oa := hQ0
    have hac : (ff, mm) = a_when T v 100 := hac
    show ez_P _ _ _ _ _ _ 38 [(4, .int (nI 100)), (3, .int mm), (2, .int ff), (0, .ref 112), (1, .int v)] [] (n, sl, kd, Ia, La, Rf) _
    refine ez_iload (i := 4) dX11_when_38 rfl ?_
    refine ez_bipush (v := 99) dX11_when_40 (by decide) ?_
    refine ez_icmp_gt (tgt := 86) dX11_when_42 (by decide) (fun c18 => ?_) (fun c18 => absurd (by decide) c18)
    refine ez_iload_n (i := 2) dX11_when_86 rfl rfl ?_
    refine ez_bipush (v := (-2)) dX11_when_87 (by decide) ?_
    refine ez_icmp_ne (tgt := 95) dX11_when_89 (by decide) (fun c19 => ?_) (fun c19 => ?_)
    · skip
      refine ez_aload_n (i := 0) dX11_when_95 rfl rfl ?_
      refine ez_iconst (v := 0) dX11_when_96 (by decide) ?_
      refine ez_pI dX11_when_97 plX11_92 (hF.lt (by decide)) (hF.lx (by decide)) (hF.kc (by decide) rfl) rfl rfl ?_
      refine ez_nmI (fun I20 hI20 => ?_)
      have hQ21 : zQ n kd I L Rf I I20 La (T.w_rw []) (zhk T T.x 100) oa := by rw [hI20]; exact hQ0.row0
      refine ez_aload_n (i := 0) dX11_when_100 rfl rfl ?_
      refine ez_iload_n (i := 3) dX11_when_101 rfl rfl ?_
      refine ez_i2l dX11_when_102 rfl ?_
      refine ez_callV (M1 := mX11_tell) (rest := []) dX11_when_103 mlX11_252 mvX11_tell rfl (hF.lt (by decide)) (hF.kc (by decide) rfl) (Nat.le_of_ble_eq_true rfl) rfl (y_X11_tell (I := I20) (L := La) (d + 399) hF (k := 0) hQ21.M.rw.1 (by decide) mm.toInt64) (eb_vok rfl) ?_
      rintro _ _ ⟨rfl, rfl⟩
      refine ez_nmI (fun I22 hI22 => ?_)
      refine ez_nmL (fun L23 hL23 => ?_)
      show ez_P _ _ _ _ _ _ 106 [(4, .int (nI 100)), (3, .int mm), (2, .int ff), (0, .ref 112), (1, .int v)] [] (n, sl, kd, I22, L23, Rf) _
      have hQ24 : zQ n kd I L Rf I I22 L23 (T.w_rw [mm.toInt64]) (zhk T T.x 100) oa := by rw [hI22, hL23]; exact hQ21.tell mm.toInt64
      refine ez_iload_n (i := 2) dX11_when_106 rfl rfl ?_
      refine ez_iret dX11_when_107 rfl rfl ?_
      rw [show s_when T v = (ff, T.w_rw [mm.toInt64]) from by unfold s_when; rw [if_pos hn, ← hac, if_neg (show ¬ ff = -2 from c19)]]
      exact hQ24.end
    · skip
      refine ez_bipush (v := (-2)) dX11_when_92 (by decide) ?_
      refine ez_iret dX11_when_94 rfl rfl ?_
      rw [show s_when T v = (-2, T) from by unfold s_when; rw [if_pos hn, ← hac, if_pos (show ff = -2 from Classical.not_not.mp c19)]]
      exact hQ0.end
theorem y_X11_when_no {n : Nat} {sl : Nat × Nat} {kd : Nat → Nat × Nat} {I : Nat → Nat → Int32} {L : Nat → Nat → Int64} {Rf : Nat → Nat → Option Nat} (d : Nat) {T : zT} {H : Nat} (hM : zM n kd I L Rf T) (hO : zOk H T) (hH : H ≤ 1000000000) {v : Int32} (hn : ¬ (-20 ≤ v ∧ v ≤ 20))  : zq mX11_when (d + 400) [.ref 112, .int v] (n, sl, kd, I, L, Rf) (zpM n sl kd I L Rf (some (.int (s_when T v).1)) (s_when T v).2) := by
  have hF := hM.F; have hc7 := hO.c
  have hsp : s_when T v = ((-1), T) := (by unfold s_when; rw [if_neg hn])
  rw [hsp]
  intro f B
  refine ez_meth pn_X.2.2.2.2.2.2.2.2.2.2.2 (Nat.le_of_ble_eq_true rfl) ?_
  show ez_P _ _ _ _ _ _ 0 [(0, .ref 112), (1, .int v)] [] (n, sl, kd, I, L, Rf) _
  refine ez_aload_n (i := 0) dX11_when_0 rfl rfl ?_
  refine ez_iconst (v := 0) dX11_when_1 (by decide) ?_
  refine ez_pI dX11_when_2 plX11_89 (hF.lt (by decide)) (hF.lx (by decide)) (hF.kc (by decide) rfl) rfl rfl ?_
  refine ez_nmI (fun I1 hI1 => ?_)
  have hQ2 : zQ n kd I L Rf I I1 L T (I 124) (I 112 25) := by rw [hI1]; exact zQ.start hM
  refine ez_iload_n (i := 1) dX11_when_5 rfl rfl ?_
  refine ez_bipush (v := (-20)) dX11_when_6 (by decide) ?_
  refine ez_bipush (v := 20) dX11_when_8 (by decide) ?_
  refine ez_callS (M1 := mX11_in) (rest := []) dX11_when_10 mlX11_98 msX11_in rfl (Nat.le_of_ble_eq_true rfl) rfl (zq_b0 hn (zq_b (q_X11_in (d + 399) v (-20) 20) (n, sl, kd, I1, L, Rf))) eb_rok ?_
  rintro _ _ ⟨rfl, rfl⟩
  show ez_P _ _ _ _ _ _ 13 [(0, .ref 112), (1, .int v)] (.int 0 :: []) _ _
  refine ez_if_ne (tgt := 18) dX11_when_13 (by decide) (fun c3 => absurd c3 (by decide)) (fun c3 => ?_)
  refine ez_iconst (v := (-1)) dX11_when_16 (by decide) ?_
  refine ez_iret dX11_when_17 rfl rfl ?_
  exact hQ2.end
theorem y_X11_when {n : Nat} {sl : Nat × Nat} {kd : Nat → Nat × Nat} {I : Nat → Nat → Int32} {L : Nat → Nat → Int64} {Rf : Nat → Nat → Option Nat} (d : Nat) {T : zT} {H : Nat} (hM : zM n kd I L Rf T) (hO : zOk H T) (hH : H ≤ 1000000000) (v : Int32) : zq mX11_when (d + 400) [.ref 112, .int v] (n, sl, kd, I, L, Rf) (zpM n sl kd I L Rf (some (.int (s_when T v).1)) (s_when T v).2) := by
  by_cases hn : -20 ≤ v ∧ v ≤ 20
  · exact y_X11_when_ok d hM hO hH hn
  · exact y_X11_when_no d hM hO hH hn
theorem y_X11_rolls_ok {n : Nat} {sl : Nat × Nat} {kd : Nat → Nat × Nat} {I : Nat → Nat → Int32} {L : Nat → Nat → Int64} {Rf : Nat → Nat → Option Nat} (d : Nat) {T : zT} {H : Nat} (hM : zM n kd I L Rf T) (hO : zOk H T) (hH : H ≤ 1000000000) {n0 : Nat} (hn : n0 ≤ 99)  : zq mX11_rolls (d + 400) [.ref 112, .int (nI n0)] (n, sl, kd, I, L, Rf) (zpM n sl kd I L Rf (some (.int (s_rolls T (nI n0)).1)) (s_rolls T (nI n0)).2) := by
  have hF := hM.F; have hc7 := hO.c
  intro f B
  refine ez_meth pn_X.2.2.2.2.2.2.2.2.2.2.2 (Nat.le_of_ble_eq_true rfl) ?_
  show ez_P _ _ _ _ _ _ 0 [(0, .ref 112), (1, .int (nI n0))] [] (n, sl, kd, I, L, Rf) _
  refine ez_aload_n (i := 0) dX11_rolls_0 rfl rfl ?_
  refine ez_iconst (v := 0) dX11_rolls_1 (by decide) ?_
  refine ez_pI dX11_rolls_2 plX11_89 (hF.lt (by decide)) (hF.lx (by decide)) (hF.kc (by decide) rfl) rfl rfl ?_
  refine ez_nmI (fun I1 hI1 => ?_)
  have hQ2 : zQ n kd I L Rf I I1 L T (I 124) (I 112 25) := by rw [hI1]; exact zQ.start hM
  refine ez_iload_n (i := 1) dX11_rolls_5 rfl rfl ?_
  refine ez_iconst (v := 0) dX11_rolls_6 (by decide) ?_
  refine ez_bipush (v := 99) dX11_rolls_7 (by decide) ?_
  refine ez_callS (M1 := mX11_in) (rest := []) dX11_rolls_9 mlX11_98 msX11_in rfl (Nat.le_of_ble_eq_true rfl) rfl (zq_b1 (z_n9 (N := 99) hn (by decide)) (zq_b (q_X11_in (d + 399) (nI n0) 0 99) (n, sl, kd, I1, L, Rf))) eb_rok ?_
  rintro _ _ ⟨rfl, rfl⟩
  show ez_P _ _ _ _ _ _ 12 [(0, .ref 112), (1, .int (nI n0))] (.int 1 :: []) _ _
  refine ez_if_ne (tgt := 17) dX11_rolls_12 (by decide) (fun c3 => ?_) (fun c3 => absurd (by decide) c3)
  refine ez_ldcw (v := (-1000000)) dX11_rolls_17 kcX11_283 ?_
  refine ez_istore_n (l' := [(2, .int ((-1000000))), (0, .ref 112), (1, .int (nI n0))]) dX11_rolls_20 rfl (by decide) rfl ?_
  refine ez_ldcw (v := 1000000) dX11_rolls_21 kcX11_284 ?_
  refine ez_istore_n (l' := [(3, .int 1000000), (2, .int ((-1000000))), (0, .ref 112), (1, .int (nI n0))]) dX11_rolls_24 rfl (by decide) rfl ?_
  refine ez_iconst (v := 0) dX11_rolls_25 (by decide) ?_
  refine ez_istore (l' := [(4, .int 0), (3, .int 1000000), (2, .int ((-1000000))), (0, .ref 112), (1, .int (nI n0))]) dX11_rolls_26 (by decide) rfl ?_
  refine ez_iconst (v := 0) dX11_rolls_28 (by decide) ?_
  refine ez_istore (l' := [(5, .int 0), (4, .int 0), (3, .int 1000000), (2, .int ((-1000000))), (0, .ref 112), (1, .int (nI n0))]) dX11_rolls_29 (by decide) rfl ?_
  refine ez_aload_n (i := 0) dX11_rolls_31 rfl rfl ?_
  refine ez_getR dX11_rolls_32 flX11_9 (hF.lt (by decide)) (hF.kc (by decide) rfl) (hF.pt 107 rfl) ?_
  refine ez_aload_n (i := 0) dX11_rolls_35 rfl rfl ?_
  refine ez_getR dX11_rolls_36 flX11_49 (hF.lt (by decide)) (hF.kc (by decide) rfl) (hF.pt 117 rfl) ?_
  refine ez_iconst (v := 0) dX11_rolls_39 (by decide) ?_
  refine ez_callS (M1 := mX11_lay) (rest := []) dX11_rolls_40 mlX11_231 msX11_lay rfl (Nat.le_of_ble_eq_true rfl) rfl (y_lay0 (I := I1) (L := L) (d + 399) hF) (eb_vok rfl) ?_
  rintro _ _ ⟨rfl, rfl⟩
  refine ez_nmI (fun I4 hI4 => ?_)
  show ez_P _ _ _ _ _ _ 43 [(5, .int 0), (4, .int 0), (3, .int 1000000), (2, .int ((-1000000))), (0, .ref 112), (1, .int (nI n0))] [] (n, sl, kd, I4, L, Rf) _
  have hQ5 : zQ n kd I L Rf I I4 L T T.x (I 112 25) := by rw [hI4]; exact hQ2.lay
  refine ez_iconst (v := 0) dX11_rolls_43 (by decide) ?_
  refine ez_istore (l' := [(6, .int 0), (5, .int 0), (4, .int 0), (3, .int 1000000), (2, .int ((-1000000))), (0, .ref 112), (1, .int (nI n0))]) dX11_rolls_44 (by decide) rfl ?_
  refine ez_eq (l2 := [(6, .int (nI 0)), (5, .int 0), (4, .int 0), (3, .int 1000000), (2, .int ((-1000000))), (0, .ref 112), (1, .int (nI n0))]) (σ2 := (n, sl, kd, I4, L, Rf)) rfl rfl rfl rfl ?_
  refine ez_for (n0 + 1) (fun k (a : (Nat → Nat → Int32) × (Nat → Nat → Int64) × Int32 × Int32 × Int32 × Int32 × Int32) => ([(6, .int (nI k)), (5, .int a.2.2.2.2.2.2), (4, .int a.2.2.2.2.2.1), (3, .int a.2.2.2.2.1), (2, .int a.2.2.2.1), (0, .ref 112), (1, .int (nI n0))], (n, sl, kd, a.1, a.2.1, Rf))) (fun k a => zQ n kd I L Rf I a.1 a.2.1 T (zhk T T.x k) a.2.2.1 ∧ (a.2.2.2.1, a.2.2.2.2.1, a.2.2.2.2.2.1, a.2.2.2.2.2.2) = a_rolls T k) ?_ ?_ (n0 + 1) 0 (I4, L, I 112 25, (-1000000), 1000000, 0, 0) (by omega) ⟨hQ5, rfl⟩
  · rintro k ⟨Ia, La, oa, ra, rb, rc, rd⟩ hk ⟨hQ0, hac⟩ ih
    have hQ0 : zQ n kd I L Rf I Ia La T (zhk T T.x k) oa := hQ0
    have hac : (ra, rb, rc, rd) = a_rolls T k := hac
    show ez_P _ _ _ _ _ _ 46 [(6, .int (nI k)), (5, .int rd), (4, .int rc), (3, .int rb), (2, .int ra), (0, .ref 112), (1, .int (nI n0))] [] (n, sl, kd, Ia, La, Rf) _
    refine ez_iload (i := 6) dX11_rolls_46 rfl ?_
    refine ez_iload_n (i := 1) dX11_rolls_48 rfl rfl ?_
    refine ez_icmp_gt (tgt := 130) dX11_rolls_49 (by decide) (fun c6 => absurd c6 (Int32.not_lt.mpr (nI_le (by omega) (by omega)))) (fun c6 => ?_)
    refine ez_aload_n (i := 0) dX11_rolls_52 rfl rfl ?_
    refine ez_getR dX11_rolls_53 flX11_49 (hF.lt (by decide)) (hF.kc (by decide) rfl) (hF.pt 117 rfl) ?_
    refine ez_bipush (v := 22) dX11_rolls_56 (by decide) ?_
    refine ez_iaN (k := 22) dX11_rolls_58 (hF.lt (by decide)) (hF.ka (by decide) rfl) (by omega) (by decide) ?_
    refine ez_topE (y := (zhk T T.x k) 22) (hQ0.x _ (by decide)) ?_
    refine ez_iload_n (i := 2) dX11_rolls_59 rfl rfl ?_
    refine ez_icmp_le (tgt := 68) dX11_rolls_60 (by decide) (fun c7 => ?_) (fun c7 => ?_)
    · skip
      refine ez_iload (i := 4) dX11_rolls_68 rfl ?_
      refine ez_istore (l' := [(4, .int rc), (6, .int (nI k)), (5, .int rd), (3, .int rb), (2, .int ra), (0, .ref 112), (1, .int (nI n0))]) dX11_rolls_70 (by decide) rfl ?_
      refine ez_iload_n (i := 2) dX11_rolls_72 rfl rfl ?_
      refine ez_aload_n (i := 0) dX11_rolls_73 rfl rfl ?_
      refine ez_getR dX11_rolls_74 flX11_49 (hF.lt (by decide)) (hF.kc (by decide) rfl) (hF.pt 117 rfl) ?_
      refine ez_bipush (v := 22) dX11_rolls_77 (by decide) ?_
      refine ez_iaN (k := 22) dX11_rolls_79 (hF.lt (by decide)) (hF.ka (by decide) rfl) (by omega) (by decide) ?_
      refine ez_topE (y := (zhk T T.x k) 22) (hQ0.x _ (by decide)) ?_
      refine ez_max dX11_rolls_80 xmX11_201 (Nat.le_of_ble_eq_true rfl) ?_
      refine ez_istore_n (l' := [(2, .int (if ra < (zhk T T.x k) 22 then (zhk T T.x k) 22 else ra)), (4, .int rc), (6, .int (nI k)), (5, .int rd), (3, .int rb), (0, .ref 112), (1, .int (nI n0))]) dX11_rolls_83 rfl (by decide) rfl ?_
      refine ez_aload_n (i := 0) dX11_rolls_84 rfl rfl ?_
      refine ez_getR dX11_rolls_85 flX11_49 (hF.lt (by decide)) (hF.kc (by decide) rfl) (hF.pt 117 rfl) ?_
      refine ez_bipush (v := 22) dX11_rolls_88 (by decide) ?_
      refine ez_iaN (k := 22) dX11_rolls_90 (hF.lt (by decide)) (hF.ka (by decide) rfl) (by omega) (by decide) ?_
      refine ez_topE (y := (zhk T T.x k) 22) (hQ0.x _ (by decide)) ?_
      refine ez_iload_n (i := 3) dX11_rolls_91 rfl rfl ?_
      refine ez_icmp_ge (tgt := 100) dX11_rolls_92 (by decide) (fun c8 => ?_) (fun c8 => ?_)
      · skip
        refine ez_iload (i := 5) dX11_rolls_100 rfl ?_
        refine ez_istore (l' := [(5, .int rd), (2, .int (if ra < (zhk T T.x k) 22 then (zhk T T.x k) 22 else ra)), (4, .int rc), (6, .int (nI k)), (3, .int rb), (0, .ref 112), (1, .int (nI n0))]) dX11_rolls_102 (by decide) rfl ?_
        refine ez_iload_n (i := 3) dX11_rolls_104 rfl rfl ?_
        refine ez_aload_n (i := 0) dX11_rolls_105 rfl rfl ?_
        refine ez_getR dX11_rolls_106 flX11_49 (hF.lt (by decide)) (hF.kc (by decide) rfl) (hF.pt 117 rfl) ?_
        refine ez_bipush (v := 22) dX11_rolls_109 (by decide) ?_
        refine ez_iaN (k := 22) dX11_rolls_111 (hF.lt (by decide)) (hF.ka (by decide) rfl) (by omega) (by decide) ?_
        refine ez_topE (y := (zhk T T.x k) 22) (hQ0.x _ (by decide)) ?_
        refine ez_min dX11_rolls_112 xmX11_197 (Nat.le_of_ble_eq_true rfl) ?_
        refine ez_istore_n (l' := [(3, .int (if (zhk T T.x k) 22 < rb then (zhk T T.x k) 22 else rb)), (5, .int rd), (2, .int (if ra < (zhk T T.x k) 22 then (zhk T T.x k) 22 else ra)), (4, .int rc), (6, .int (nI k)), (0, .ref 112), (1, .int (nI n0))]) dX11_rolls_115 rfl (by decide) rfl ?_
        refine ez_aload_n (i := 0) dX11_rolls_116 rfl rfl ?_
        refine ez_aload_n (i := 0) dX11_rolls_117 rfl rfl ?_
        refine ez_getR dX11_rolls_118 flX11_49 (hF.lt (by decide)) (hF.kc (by decide) rfl) (hF.pt 117 rfl) ?_
        refine ez_callV (M1 := mX11_goHour) (rest := []) dX11_rolls_121 mlX11_242 mvX11_goHour rfl (hF.lt (by decide)) (hF.kc (by decide) rfl) (Nat.le_of_ble_eq_true rfl) rfl (y_X11_goHour (I := Ia) (d + 89) hQ0.M.W hc7 (Or.inr rfl) hQ0.x (zhk_xr hO.x hO.wm.1 hO.wd hO.c k) (by omega) hO.wm hO.wd) zpH_ok ?_
        rintro _ _ ⟨rfl, I9, rfl, hq10⟩
        show ez_P _ _ _ _ _ _ 124 [(3, .int (if (zhk T T.x k) 22 < rb then (zhk T T.x k) 22 else rb)), (5, .int rd), (2, .int (if ra < (zhk T T.x k) 22 then (zhk T T.x k) 22 else ra)), (4, .int rc), (6, .int (nI k)), (0, .ref 112), (1, .int (nI n0))] [] (n, sl, kd, I9, La, Rf) _
        rw [hQ0.o] at hq10
        have hQ11 : zQ n kd I L Rf I I9 La T (zh1 T (zhw T (zhk T T.x k)) (zhk T T.x k)) (oa + zho T (zhw T (zhk T T.x k)) (zhk T T.x k)) := by exact hQ0.hp hq10
        refine ez_iinc (v := (nI (k + 1))) (l' := [(6, .int ((nI (k + 1)))), (3, .int (if (zhk T T.x k) 22 < rb then (zhk T T.x k) 22 else rb)), (5, .int rd), (2, .int (if ra < (zhk T T.x k) 22 then (zhk T T.x k) 22 else ra)), (4, .int rc), (0, .ref 112), (1, .int (nI n0))]) dX11_rolls_124 rfl (nI_1 _) (by decide) rfl ?_
        refine ez_goto (tgt := 46) dX11_rolls_127 (by decide) ?_
        refine ez_sub (l' := [(6, .int ((nI (k + 1)))), (5, .int rd), (4, .int rc), (3, .int (if (zhk T T.x k) 22 < rb then (zhk T T.x k) 22 else rb)), (2, .int (if ra < (zhk T T.x k) 22 then (zhk T T.x k) 22 else ra)), (0, .ref 112), (1, .int (nI n0))]) [0, 2, 4, 1, 3, 5, 6] rfl ?_
        exact ez_eq (l2 := [(6, .int (nI (k + 1))), (5, .int rd), (4, .int rc), (3, .int (if (zhk T T.x k) 22 < rb then (zhk T T.x k) 22 else rb)), (2, .int (if ra < (zhk T T.x k) 22 then (zhk T T.x k) 22 else ra)), (0, .ref 112), (1, .int (nI n0))]) rfl rfl rfl rfl (ih (I9, La, oa + zho T (zhw T (zhk T T.x k)) (zhk T T.x k), if ra < (zhk T T.x k) 22 then (zhk T T.x k) 22 else ra, if (zhk T T.x k) 22 < rb then (zhk T T.x k) 22 else rb, rc, rd) ⟨hQ11, (by rw [a_rolls, ← hac, b_rolls]; simp only [if_pos c7, if_pos c8])⟩)
      · skip
        refine ez_iload (i := 6) dX11_rolls_95 rfl ?_
        refine ez_goto (tgt := 102) dX11_rolls_97 (by decide) ?_
        refine ez_istore (l' := [(5, .int (nI k)), (2, .int (if ra < (zhk T T.x k) 22 then (zhk T T.x k) 22 else ra)), (4, .int rc), (6, .int (nI k)), (3, .int rb), (0, .ref 112), (1, .int (nI n0))]) dX11_rolls_102 (by decide) rfl ?_
        refine ez_iload_n (i := 3) dX11_rolls_104 rfl rfl ?_
        refine ez_aload_n (i := 0) dX11_rolls_105 rfl rfl ?_
        refine ez_getR dX11_rolls_106 flX11_49 (hF.lt (by decide)) (hF.kc (by decide) rfl) (hF.pt 117 rfl) ?_
        refine ez_bipush (v := 22) dX11_rolls_109 (by decide) ?_
        refine ez_iaN (k := 22) dX11_rolls_111 (hF.lt (by decide)) (hF.ka (by decide) rfl) (by omega) (by decide) ?_
        refine ez_topE (y := (zhk T T.x k) 22) (hQ0.x _ (by decide)) ?_
        refine ez_min dX11_rolls_112 xmX11_197 (Nat.le_of_ble_eq_true rfl) ?_
        refine ez_istore_n (l' := [(3, .int (if (zhk T T.x k) 22 < rb then (zhk T T.x k) 22 else rb)), (5, .int (nI k)), (2, .int (if ra < (zhk T T.x k) 22 then (zhk T T.x k) 22 else ra)), (4, .int rc), (6, .int (nI k)), (0, .ref 112), (1, .int (nI n0))]) dX11_rolls_115 rfl (by decide) rfl ?_
        refine ez_aload_n (i := 0) dX11_rolls_116 rfl rfl ?_
        refine ez_aload_n (i := 0) dX11_rolls_117 rfl rfl ?_
        refine ez_getR dX11_rolls_118 flX11_49 (hF.lt (by decide)) (hF.kc (by decide) rfl) (hF.pt 117 rfl) ?_
        refine ez_callV (M1 := mX11_goHour) (rest := []) dX11_rolls_121 mlX11_242 mvX11_goHour rfl (hF.lt (by decide)) (hF.kc (by decide) rfl) (Nat.le_of_ble_eq_true rfl) rfl (y_X11_goHour (I := Ia) (d + 89) hQ0.M.W hc7 (Or.inr rfl) hQ0.x (zhk_xr hO.x hO.wm.1 hO.wd hO.c k) (by omega) hO.wm hO.wd) zpH_ok ?_
        rintro _ _ ⟨rfl, I12, rfl, hq13⟩
        show ez_P _ _ _ _ _ _ 124 [(3, .int (if (zhk T T.x k) 22 < rb then (zhk T T.x k) 22 else rb)), (5, .int (nI k)), (2, .int (if ra < (zhk T T.x k) 22 then (zhk T T.x k) 22 else ra)), (4, .int rc), (6, .int (nI k)), (0, .ref 112), (1, .int (nI n0))] [] (n, sl, kd, I12, La, Rf) _
        rw [hQ0.o] at hq13
        have hQ14 : zQ n kd I L Rf I I12 La T (zh1 T (zhw T (zhk T T.x k)) (zhk T T.x k)) (oa + zho T (zhw T (zhk T T.x k)) (zhk T T.x k)) := by exact hQ0.hp hq13
        refine ez_iinc (v := (nI (k + 1))) (l' := [(6, .int ((nI (k + 1)))), (3, .int (if (zhk T T.x k) 22 < rb then (zhk T T.x k) 22 else rb)), (5, .int (nI k)), (2, .int (if ra < (zhk T T.x k) 22 then (zhk T T.x k) 22 else ra)), (4, .int rc), (0, .ref 112), (1, .int (nI n0))]) dX11_rolls_124 rfl (nI_1 _) (by decide) rfl ?_
        refine ez_goto (tgt := 46) dX11_rolls_127 (by decide) ?_
        refine ez_sub (l' := [(6, .int ((nI (k + 1)))), (5, .int (nI k)), (4, .int rc), (3, .int (if (zhk T T.x k) 22 < rb then (zhk T T.x k) 22 else rb)), (2, .int (if ra < (zhk T T.x k) 22 then (zhk T T.x k) 22 else ra)), (0, .ref 112), (1, .int (nI n0))]) [0, 2, 4, 1, 3, 5, 6] rfl ?_
        exact ez_eq (l2 := [(6, .int (nI (k + 1))), (5, .int (nI k)), (4, .int rc), (3, .int (if (zhk T T.x k) 22 < rb then (zhk T T.x k) 22 else rb)), (2, .int (if ra < (zhk T T.x k) 22 then (zhk T T.x k) 22 else ra)), (0, .ref 112), (1, .int (nI n0))]) rfl rfl rfl rfl (ih (I12, La, oa + zho T (zhw T (zhk T T.x k)) (zhk T T.x k), if ra < (zhk T T.x k) 22 then (zhk T T.x k) 22 else ra, if (zhk T T.x k) 22 < rb then (zhk T T.x k) 22 else rb, rc, nI k) ⟨hQ14, (by rw [a_rolls, ← hac, b_rolls]; simp only [if_pos c7, if_neg c8])⟩)
    · skip
      refine ez_iload (i := 6) dX11_rolls_63 rfl ?_
      refine ez_goto (tgt := 70) dX11_rolls_65 (by decide) ?_
      refine ez_istore (l' := [(4, .int (nI k)), (6, .int (nI k)), (5, .int rd), (3, .int rb), (2, .int ra), (0, .ref 112), (1, .int (nI n0))]) dX11_rolls_70 (by decide) rfl ?_
      refine ez_iload_n (i := 2) dX11_rolls_72 rfl rfl ?_
      refine ez_aload_n (i := 0) dX11_rolls_73 rfl rfl ?_
      refine ez_getR dX11_rolls_74 flX11_49 (hF.lt (by decide)) (hF.kc (by decide) rfl) (hF.pt 117 rfl) ?_
      refine ez_bipush (v := 22) dX11_rolls_77 (by decide) ?_
      refine ez_iaN (k := 22) dX11_rolls_79 (hF.lt (by decide)) (hF.ka (by decide) rfl) (by omega) (by decide) ?_
      refine ez_topE (y := (zhk T T.x k) 22) (hQ0.x _ (by decide)) ?_
      refine ez_max dX11_rolls_80 xmX11_201 (Nat.le_of_ble_eq_true rfl) ?_
      refine ez_istore_n (l' := [(2, .int (if ra < (zhk T T.x k) 22 then (zhk T T.x k) 22 else ra)), (4, .int (nI k)), (6, .int (nI k)), (5, .int rd), (3, .int rb), (0, .ref 112), (1, .int (nI n0))]) dX11_rolls_83 rfl (by decide) rfl ?_
      refine ez_aload_n (i := 0) dX11_rolls_84 rfl rfl ?_
      refine ez_getR dX11_rolls_85 flX11_49 (hF.lt (by decide)) (hF.kc (by decide) rfl) (hF.pt 117 rfl) ?_
      refine ez_bipush (v := 22) dX11_rolls_88 (by decide) ?_
      refine ez_iaN (k := 22) dX11_rolls_90 (hF.lt (by decide)) (hF.ka (by decide) rfl) (by omega) (by decide) ?_
      refine ez_topE (y := (zhk T T.x k) 22) (hQ0.x _ (by decide)) ?_
      refine ez_iload_n (i := 3) dX11_rolls_91 rfl rfl ?_
      refine ez_icmp_ge (tgt := 100) dX11_rolls_92 (by decide) (fun c15 => ?_) (fun c15 => ?_)
      · skip
        refine ez_iload (i := 5) dX11_rolls_100 rfl ?_
        refine ez_istore (l' := [(5, .int rd), (2, .int (if ra < (zhk T T.x k) 22 then (zhk T T.x k) 22 else ra)), (4, .int (nI k)), (6, .int (nI k)), (3, .int rb), (0, .ref 112), (1, .int (nI n0))]) dX11_rolls_102 (by decide) rfl ?_
        refine ez_iload_n (i := 3) dX11_rolls_104 rfl rfl ?_
        refine ez_aload_n (i := 0) dX11_rolls_105 rfl rfl ?_
        refine ez_getR dX11_rolls_106 flX11_49 (hF.lt (by decide)) (hF.kc (by decide) rfl) (hF.pt 117 rfl) ?_
        refine ez_bipush (v := 22) dX11_rolls_109 (by decide) ?_
        refine ez_iaN (k := 22) dX11_rolls_111 (hF.lt (by decide)) (hF.ka (by decide) rfl) (by omega) (by decide) ?_
        refine ez_topE (y := (zhk T T.x k) 22) (hQ0.x _ (by decide)) ?_
        refine ez_min dX11_rolls_112 xmX11_197 (Nat.le_of_ble_eq_true rfl) ?_
        refine ez_istore_n (l' := [(3, .int (if (zhk T T.x k) 22 < rb then (zhk T T.x k) 22 else rb)), (5, .int rd), (2, .int (if ra < (zhk T T.x k) 22 then (zhk T T.x k) 22 else ra)), (4, .int (nI k)), (6, .int (nI k)), (0, .ref 112), (1, .int (nI n0))]) dX11_rolls_115 rfl (by decide) rfl ?_
        refine ez_aload_n (i := 0) dX11_rolls_116 rfl rfl ?_
        refine ez_aload_n (i := 0) dX11_rolls_117 rfl rfl ?_
        refine ez_getR dX11_rolls_118 flX11_49 (hF.lt (by decide)) (hF.kc (by decide) rfl) (hF.pt 117 rfl) ?_
        refine ez_callV (M1 := mX11_goHour) (rest := []) dX11_rolls_121 mlX11_242 mvX11_goHour rfl (hF.lt (by decide)) (hF.kc (by decide) rfl) (Nat.le_of_ble_eq_true rfl) rfl (y_X11_goHour (I := Ia) (d + 89) hQ0.M.W hc7 (Or.inr rfl) hQ0.x (zhk_xr hO.x hO.wm.1 hO.wd hO.c k) (by omega) hO.wm hO.wd) zpH_ok ?_
        rintro _ _ ⟨rfl, I16, rfl, hq17⟩
        show ez_P _ _ _ _ _ _ 124 [(3, .int (if (zhk T T.x k) 22 < rb then (zhk T T.x k) 22 else rb)), (5, .int rd), (2, .int (if ra < (zhk T T.x k) 22 then (zhk T T.x k) 22 else ra)), (4, .int (nI k)), (6, .int (nI k)), (0, .ref 112), (1, .int (nI n0))] [] (n, sl, kd, I16, La, Rf) _
        rw [hQ0.o] at hq17
        have hQ18 : zQ n kd I L Rf I I16 La T (zh1 T (zhw T (zhk T T.x k)) (zhk T T.x k)) (oa + zho T (zhw T (zhk T T.x k)) (zhk T T.x k)) := by exact hQ0.hp hq17
        refine ez_iinc (v := (nI (k + 1))) (l' := [(6, .int ((nI (k + 1)))), (3, .int (if (zhk T T.x k) 22 < rb then (zhk T T.x k) 22 else rb)), (5, .int rd), (2, .int (if ra < (zhk T T.x k) 22 then (zhk T T.x k) 22 else ra)), (4, .int (nI k)), (0, .ref 112), (1, .int (nI n0))]) dX11_rolls_124 rfl (nI_1 _) (by decide) rfl ?_
        refine ez_goto (tgt := 46) dX11_rolls_127 (by decide) ?_
        refine ez_sub (l' := [(6, .int ((nI (k + 1)))), (5, .int rd), (4, .int (nI k)), (3, .int (if (zhk T T.x k) 22 < rb then (zhk T T.x k) 22 else rb)), (2, .int (if ra < (zhk T T.x k) 22 then (zhk T T.x k) 22 else ra)), (0, .ref 112), (1, .int (nI n0))]) [0, 2, 4, 1, 3, 5, 6] rfl ?_
        exact ez_eq (l2 := [(6, .int (nI (k + 1))), (5, .int rd), (4, .int (nI k)), (3, .int (if (zhk T T.x k) 22 < rb then (zhk T T.x k) 22 else rb)), (2, .int (if ra < (zhk T T.x k) 22 then (zhk T T.x k) 22 else ra)), (0, .ref 112), (1, .int (nI n0))]) rfl rfl rfl rfl (ih (I16, La, oa + zho T (zhw T (zhk T T.x k)) (zhk T T.x k), if ra < (zhk T T.x k) 22 then (zhk T T.x k) 22 else ra, if (zhk T T.x k) 22 < rb then (zhk T T.x k) 22 else rb, nI k, rd) ⟨hQ18, (by rw [a_rolls, ← hac, b_rolls]; simp only [if_neg c7, if_pos c15])⟩)
      · skip
        refine ez_iload (i := 6) dX11_rolls_95 rfl ?_
        refine ez_goto (tgt := 102) dX11_rolls_97 (by decide) ?_
        refine ez_istore (l' := [(5, .int (nI k)), (2, .int (if ra < (zhk T T.x k) 22 then (zhk T T.x k) 22 else ra)), (4, .int (nI k)), (6, .int (nI k)), (3, .int rb), (0, .ref 112), (1, .int (nI n0))]) dX11_rolls_102 (by decide) rfl ?_
        refine ez_iload_n (i := 3) dX11_rolls_104 rfl rfl ?_
        refine ez_aload_n (i := 0) dX11_rolls_105 rfl rfl ?_
        refine ez_getR dX11_rolls_106 flX11_49 (hF.lt (by decide)) (hF.kc (by decide) rfl) (hF.pt 117 rfl) ?_
        refine ez_bipush (v := 22) dX11_rolls_109 (by decide) ?_
        refine ez_iaN (k := 22) dX11_rolls_111 (hF.lt (by decide)) (hF.ka (by decide) rfl) (by omega) (by decide) ?_
        refine ez_topE (y := (zhk T T.x k) 22) (hQ0.x _ (by decide)) ?_
        refine ez_min dX11_rolls_112 xmX11_197 (Nat.le_of_ble_eq_true rfl) ?_
        refine ez_istore_n (l' := [(3, .int (if (zhk T T.x k) 22 < rb then (zhk T T.x k) 22 else rb)), (5, .int (nI k)), (2, .int (if ra < (zhk T T.x k) 22 then (zhk T T.x k) 22 else ra)), (4, .int (nI k)), (6, .int (nI k)), (0, .ref 112), (1, .int (nI n0))]) dX11_rolls_115 rfl (by decide) rfl ?_
        refine ez_aload_n (i := 0) dX11_rolls_116 rfl rfl ?_
        refine ez_aload_n (i := 0) dX11_rolls_117 rfl rfl ?_
        refine ez_getR dX11_rolls_118 flX11_49 (hF.lt (by decide)) (hF.kc (by decide) rfl) (hF.pt 117 rfl) ?_
        refine ez_callV (M1 := mX11_goHour) (rest := []) dX11_rolls_121 mlX11_242 mvX11_goHour rfl (hF.lt (by decide)) (hF.kc (by decide) rfl) (Nat.le_of_ble_eq_true rfl) rfl (y_X11_goHour (I := Ia) (d + 89) hQ0.M.W hc7 (Or.inr rfl) hQ0.x (zhk_xr hO.x hO.wm.1 hO.wd hO.c k) (by omega) hO.wm hO.wd) zpH_ok ?_
        rintro _ _ ⟨rfl, I19, rfl, hq20⟩
        show ez_P _ _ _ _ _ _ 124 [(3, .int (if (zhk T T.x k) 22 < rb then (zhk T T.x k) 22 else rb)), (5, .int (nI k)), (2, .int (if ra < (zhk T T.x k) 22 then (zhk T T.x k) 22 else ra)), (4, .int (nI k)), (6, .int (nI k)), (0, .ref 112), (1, .int (nI n0))] [] (n, sl, kd, I19, La, Rf) _
        rw [hQ0.o] at hq20
        have hQ21 : zQ n kd I L Rf I I19 La T (zh1 T (zhw T (zhk T T.x k)) (zhk T T.x k)) (oa + zho T (zhw T (zhk T T.x k)) (zhk T T.x k)) := by exact hQ0.hp hq20
        refine ez_iinc (v := (nI (k + 1))) (l' := [(6, .int ((nI (k + 1)))), (3, .int (if (zhk T T.x k) 22 < rb then (zhk T T.x k) 22 else rb)), (5, .int (nI k)), (2, .int (if ra < (zhk T T.x k) 22 then (zhk T T.x k) 22 else ra)), (4, .int (nI k)), (0, .ref 112), (1, .int (nI n0))]) dX11_rolls_124 rfl (nI_1 _) (by decide) rfl ?_
        refine ez_goto (tgt := 46) dX11_rolls_127 (by decide) ?_
        refine ez_sub (l' := [(6, .int ((nI (k + 1)))), (5, .int (nI k)), (4, .int (nI k)), (3, .int (if (zhk T T.x k) 22 < rb then (zhk T T.x k) 22 else rb)), (2, .int (if ra < (zhk T T.x k) 22 then (zhk T T.x k) 22 else ra)), (0, .ref 112), (1, .int (nI n0))]) [0, 2, 4, 1, 3, 5, 6] rfl ?_
        exact ez_eq (l2 := [(6, .int (nI (k + 1))), (5, .int (nI k)), (4, .int (nI k)), (3, .int (if (zhk T T.x k) 22 < rb then (zhk T T.x k) 22 else rb)), (2, .int (if ra < (zhk T T.x k) 22 then (zhk T T.x k) 22 else ra)), (0, .ref 112), (1, .int (nI n0))]) rfl rfl rfl rfl (ih (I19, La, oa + zho T (zhw T (zhk T T.x k)) (zhk T T.x k), if ra < (zhk T T.x k) 22 then (zhk T T.x k) 22 else ra, if (zhk T T.x k) 22 < rb then (zhk T T.x k) 22 else rb, nI k, nI k) ⟨hQ21, (by rw [a_rolls, ← hac, b_rolls]; simp only [if_neg c7, if_neg c15])⟩)
  · rintro ⟨Ia, La, oa, ra, rb, rc, rd⟩ ⟨hQ0, hac⟩
    have hQ0 : zQ n kd I L Rf I Ia La T (zhk T T.x (n0 + 1)) oa := hQ0
    have hac : (ra, rb, rc, rd) = a_rolls T (n0 + 1) := hac
    show ez_P _ _ _ _ _ _ 46 [(6, .int (nI (n0 + 1))), (5, .int rd), (4, .int rc), (3, .int rb), (2, .int ra), (0, .ref 112), (1, .int (nI n0))] [] (n, sl, kd, Ia, La, Rf) _
    refine ez_iload (i := 6) dX11_rolls_46 rfl ?_
    refine ez_iload_n (i := 1) dX11_rolls_48 rfl rfl ?_
    refine ez_icmp_gt (tgt := 130) dX11_rolls_49 (by decide) (fun c22 => ?_) (fun c22 => absurd (nI_lt (by omega) (by omega)) c22)
    refine ez_aload_n (i := 0) dX11_rolls_130 rfl rfl ?_
    refine ez_iconst (v := 0) dX11_rolls_131 (by decide) ?_
    refine ez_pI dX11_rolls_132 plX11_92 (hF.lt (by decide)) (hF.lx (by decide)) (hF.kc (by decide) rfl) rfl rfl ?_
    refine ez_nmI (fun I23 hI23 => ?_)
    have hQ24 : zQ n kd I L Rf I I23 La (T.w_rw []) (zhk T T.x (n0 + 1)) oa := by rw [hI23]; exact hQ0.row0
    refine ez_aload_n (i := 0) dX11_rolls_135 rfl rfl ?_
    refine ez_iload (i := 4) dX11_rolls_136 rfl ?_
    refine ez_i2l dX11_rolls_138 rfl ?_
    refine ez_callV (M1 := mX11_tell) (rest := []) dX11_rolls_139 mlX11_252 mvX11_tell rfl (hF.lt (by decide)) (hF.kc (by decide) rfl) (Nat.le_of_ble_eq_true rfl) rfl (y_X11_tell (I := I23) (L := La) (d + 399) hF (k := 0) hQ24.M.rw.1 (by decide) rc.toInt64) (eb_vok rfl) ?_
    rintro _ _ ⟨rfl, rfl⟩
    refine ez_nmI (fun I25 hI25 => ?_)
    refine ez_nmL (fun L26 hL26 => ?_)
    show ez_P _ _ _ _ _ _ 142 [(6, .int (nI (n0 + 1))), (5, .int rd), (4, .int rc), (3, .int rb), (2, .int ra), (0, .ref 112), (1, .int (nI n0))] [] (n, sl, kd, I25, L26, Rf) _
    have hQ27 : zQ n kd I L Rf I I25 L26 (T.w_rw [rc.toInt64]) (zhk T T.x (n0 + 1)) oa := by rw [hI25, hL26]; exact hQ24.tell rc.toInt64
    refine ez_aload_n (i := 0) dX11_rolls_142 rfl rfl ?_
    refine ez_bipush (v := 100) dX11_rolls_143 (by decide) ?_
    refine ez_iload_n (i := 3) dX11_rolls_145 rfl rfl ?_
    refine ez_iadd dX11_rolls_146 ?_
    refine ez_i2l dX11_rolls_147 rfl ?_
    refine ez_callV (M1 := mX11_tell) (rest := []) dX11_rolls_148 mlX11_252 mvX11_tell rfl (hF.lt (by decide)) (hF.kc (by decide) rfl) (Nat.le_of_ble_eq_true rfl) rfl (y_X11_tell (I := I25) (L := L26) (d + 399) hF (k := 1) hQ27.M.rw.1 (by decide) ((100 + rb).toInt64)) (eb_vok rfl) ?_
    rintro _ _ ⟨rfl, rfl⟩
    refine ez_nmI (fun I28 hI28 => ?_)
    refine ez_nmL (fun L29 hL29 => ?_)
    show ez_P _ _ _ _ _ _ 151 [(6, .int (nI (n0 + 1))), (5, .int rd), (4, .int rc), (3, .int rb), (2, .int ra), (0, .ref 112), (1, .int (nI n0))] [] (n, sl, kd, I28, L29, Rf) _
    have hQ30 : zQ n kd I L Rf I I28 L29 (T.w_rw [rc.toInt64, (100 + rb).toInt64]) (zhk T T.x (n0 + 1)) oa := by rw [hI28, hL29]; exact hQ27.tell ((100 + rb).toInt64)
    refine ez_aload_n (i := 0) dX11_rolls_151 rfl rfl ?_
    refine ez_iload (i := 5) dX11_rolls_152 rfl ?_
    refine ez_i2l dX11_rolls_154 rfl ?_
    refine ez_callV (M1 := mX11_tell) (rest := []) dX11_rolls_155 mlX11_252 mvX11_tell rfl (hF.lt (by decide)) (hF.kc (by decide) rfl) (Nat.le_of_ble_eq_true rfl) rfl (y_X11_tell (I := I28) (L := L29) (d + 399) hF (k := 2) hQ30.M.rw.1 (by decide) rd.toInt64) (eb_vok rfl) ?_
    rintro _ _ ⟨rfl, rfl⟩
    refine ez_nmI (fun I31 hI31 => ?_)
    refine ez_nmL (fun L32 hL32 => ?_)
    show ez_P _ _ _ _ _ _ 158 [(6, .int (nI (n0 + 1))), (5, .int rd), (4, .int rc), (3, .int rb), (2, .int ra), (0, .ref 112), (1, .int (nI n0))] [] (n, sl, kd, I31, L32, Rf) _
    have hQ33 : zQ n kd I L Rf I I31 L32 (T.w_rw [rc.toInt64, (100 + rb).toInt64, rd.toInt64]) (zhk T T.x (n0 + 1)) oa := by rw [hI31, hL32]; exact hQ30.tell rd.toInt64
    refine ez_bipush (v := 100) dX11_rolls_158 (by decide) ?_
    refine ez_iload_n (i := 2) dX11_rolls_160 rfl rfl ?_
    refine ez_iadd dX11_rolls_161 ?_
    refine ez_iret dX11_rolls_162 rfl rfl ?_
    rw [show s_rolls T (nI n0) = (100 + ra, T.w_rw [rc.toInt64, (100 + rb).toInt64, rd.toInt64]) from by unfold s_rolls; rw [if_pos ⟨(z_n9 (N := 99) hn (by decide)).1, (z_n9 (N := 99) hn (by decide)).2⟩, nI_clamp (by omega), ← hac]]
    exact hQ33.end
theorem y_X11_rolls_no {n : Nat} {sl : Nat × Nat} {kd : Nat → Nat × Nat} {I : Nat → Nat → Int32} {L : Nat → Nat → Int64} {Rf : Nat → Nat → Option Nat} (d : Nat) {T : zT} {H : Nat} (hM : zM n kd I L Rf T) (hO : zOk H T) (hH : H ≤ 1000000000) {v : Int32} (hn : ¬ (0 ≤ v ∧ v ≤ 99))  : zq mX11_rolls (d + 400) [.ref 112, .int v] (n, sl, kd, I, L, Rf) (zpM n sl kd I L Rf (some (.int (s_rolls T v).1)) (s_rolls T v).2) := by
  have hF := hM.F; have hc7 := hO.c
  have hsp : s_rolls T v = ((-1), T) := (by unfold s_rolls; rw [if_neg hn])
  rw [hsp]
  intro f B
  refine ez_meth pn_X.2.2.2.2.2.2.2.2.2.2.2 (Nat.le_of_ble_eq_true rfl) ?_
  show ez_P _ _ _ _ _ _ 0 [(0, .ref 112), (1, .int v)] [] (n, sl, kd, I, L, Rf) _
  refine ez_aload_n (i := 0) dX11_rolls_0 rfl rfl ?_
  refine ez_iconst (v := 0) dX11_rolls_1 (by decide) ?_
  refine ez_pI dX11_rolls_2 plX11_89 (hF.lt (by decide)) (hF.lx (by decide)) (hF.kc (by decide) rfl) rfl rfl ?_
  refine ez_nmI (fun I1 hI1 => ?_)
  have hQ2 : zQ n kd I L Rf I I1 L T (I 124) (I 112 25) := by rw [hI1]; exact zQ.start hM
  refine ez_iload_n (i := 1) dX11_rolls_5 rfl rfl ?_
  refine ez_iconst (v := 0) dX11_rolls_6 (by decide) ?_
  refine ez_bipush (v := 99) dX11_rolls_7 (by decide) ?_
  refine ez_callS (M1 := mX11_in) (rest := []) dX11_rolls_9 mlX11_98 msX11_in rfl (Nat.le_of_ble_eq_true rfl) rfl (zq_b0 hn (zq_b (q_X11_in (d + 399) v 0 99) (n, sl, kd, I1, L, Rf))) eb_rok ?_
  rintro _ _ ⟨rfl, rfl⟩
  show ez_P _ _ _ _ _ _ 12 [(0, .ref 112), (1, .int v)] (.int 0 :: []) _ _
  refine ez_if_ne (tgt := 17) dX11_rolls_12 (by decide) (fun c3 => absurd c3 (by decide)) (fun c3 => ?_)
  refine ez_iconst (v := (-1)) dX11_rolls_15 (by decide) ?_
  refine ez_iret dX11_rolls_16 rfl rfl ?_
  exact hQ2.end
theorem y_X11_rolls {n : Nat} {sl : Nat × Nat} {kd : Nat → Nat × Nat} {I : Nat → Nat → Int32} {L : Nat → Nat → Int64} {Rf : Nat → Nat → Option Nat} (d : Nat) {T : zT} {H : Nat} (hM : zM n kd I L Rf T) (hO : zOk H T) (hH : H ≤ 1000000000) (v : Int32) : zq mX11_rolls (d + 400) [.ref 112, .int v] (n, sl, kd, I, L, Rf) (zpM n sl kd I L Rf (some (.int (s_rolls T v).1)) (s_rolls T v).2) := by
  by_cases hn : 0 ≤ v ∧ v ≤ 99
  · obtain ⟨n0, _, hn0, rfl⟩ := z_pk1 (lo := 0) (N := 99) hn (by decide) (by decide)
    exact y_X11_rolls_ok d hM hO hH hn0
  · exact y_X11_rolls_no d hM hO hH hn
theorem y_X11_steady_ok {n : Nat} {sl : Nat × Nat} {kd : Nat → Nat × Nat} {I : Nat → Nat → Int32} {L : Nat → Nat → Int64} {Rf : Nat → Nat → Option Nat} (d : Nat) {T : zT} {H : Nat} (hM : zM n kd I L Rf T) (hO : zOk H T) (hH : H ≤ 1000000000) {n0 : Nat} (hn1 : 1 ≤ n0) (hn : n0 ≤ 99) {v : Int32} (hv : 0 ≤ v ∧ v ≤ 20)  : zq mX11_steady (d + 400) [.ref 112, .int (nI n0), .int v] (n, sl, kd, I, L, Rf) (zpM n sl kd I L Rf (some (.int (s_steady T (nI n0) v).1)) (s_steady T (nI n0) v).2) := by
  have hF := hM.F; have hc7 := hO.c
  intro f B
  refine ez_meth pn_X.2.2.2.2.2.2.2.2.2.2.2 (Nat.le_of_ble_eq_true rfl) ?_
  show ez_P _ _ _ _ _ _ 0 [(0, .ref 112), (1, .int (nI n0)), (2, .int v)] [] (n, sl, kd, I, L, Rf) _
  refine ez_aload_n (i := 0) dX11_steady_0 rfl rfl ?_
  refine ez_iconst (v := 0) dX11_steady_1 (by decide) ?_
  refine ez_pI dX11_steady_2 plX11_89 (hF.lt (by decide)) (hF.lx (by decide)) (hF.kc (by decide) rfl) rfl rfl ?_
  refine ez_nmI (fun I1 hI1 => ?_)
  have hQ2 : zQ n kd I L Rf I I1 L T (I 124) (I 112 25) := by rw [hI1]; exact zQ.start hM
  refine ez_iload_n (i := 1) dX11_steady_5 rfl rfl ?_
  refine ez_iconst (v := 1) dX11_steady_6 (by decide) ?_
  refine ez_bipush (v := 99) dX11_steady_7 (by decide) ?_
  refine ez_callS (M1 := mX11_in) (rest := []) dX11_steady_9 mlX11_98 msX11_in rfl (Nat.le_of_ble_eq_true rfl) rfl (zq_b1 (z_n19 (N := 99) hn1 hn (by decide)) (zq_b (q_X11_in (d + 399) (nI n0) 1 99) (n, sl, kd, I1, L, Rf))) eb_rok ?_
  rintro _ _ ⟨rfl, rfl⟩
  show ez_P _ _ _ _ _ _ 12 [(0, .ref 112), (1, .int (nI n0)), (2, .int v)] (.int 1 :: []) _ _
  refine ez_if_eq (tgt := 25) dX11_steady_12 (by decide) (fun c3 => absurd c3 (by decide)) (fun c3 => ?_)
  refine ez_iload_n (i := 2) dX11_steady_15 rfl rfl ?_
  refine ez_iconst (v := 0) dX11_steady_16 (by decide) ?_
  refine ez_bipush (v := 20) dX11_steady_17 (by decide) ?_
  refine ez_callS (M1 := mX11_in) (rest := []) dX11_steady_19 mlX11_98 msX11_in rfl (Nat.le_of_ble_eq_true rfl) rfl (zq_b1 hv (zq_b (q_X11_in (d + 399) v 0 20) (n, sl, kd, I1, L, Rf))) eb_rok ?_
  rintro _ _ ⟨rfl, rfl⟩
  show ez_P _ _ _ _ _ _ 22 [(0, .ref 112), (1, .int (nI n0)), (2, .int v)] (.int 1 :: []) _ _
  refine ez_if_ne (tgt := 27) dX11_steady_22 (by decide) (fun c4 => ?_) (fun c4 => absurd (by decide) c4)
  refine ez_iconst (v := 0) dX11_steady_27 (by decide) ?_
  refine ez_istore_n (l' := [(3, .int 0), (0, .ref 112), (1, .int (nI n0)), (2, .int v)]) dX11_steady_28 rfl (by decide) rfl ?_
  refine ez_iconst (v := 0) dX11_steady_29 (by decide) ?_
  refine ez_istore (l' := [(4, .int 0), (3, .int 0), (0, .ref 112), (1, .int (nI n0)), (2, .int v)]) dX11_steady_30 (by decide) rfl ?_
  refine ez_iconst (v := 0) dX11_steady_32 (by decide) ?_
  refine ez_istore (l' := [(5, .int 0), (4, .int 0), (3, .int 0), (0, .ref 112), (1, .int (nI n0)), (2, .int v)]) dX11_steady_33 (by decide) rfl ?_
  refine ez_aload_n (i := 0) dX11_steady_35 rfl rfl ?_
  refine ez_getR dX11_steady_36 flX11_9 (hF.lt (by decide)) (hF.kc (by decide) rfl) (hF.pt 107 rfl) ?_
  refine ez_aload_n (i := 0) dX11_steady_39 rfl rfl ?_
  refine ez_getR dX11_steady_40 flX11_49 (hF.lt (by decide)) (hF.kc (by decide) rfl) (hF.pt 117 rfl) ?_
  refine ez_iconst (v := 0) dX11_steady_43 (by decide) ?_
  refine ez_callS (M1 := mX11_lay) (rest := []) dX11_steady_44 mlX11_231 msX11_lay rfl (Nat.le_of_ble_eq_true rfl) rfl (y_lay0 (I := I1) (L := L) (d + 399) hF) (eb_vok rfl) ?_
  rintro _ _ ⟨rfl, rfl⟩
  refine ez_nmI (fun I5 hI5 => ?_)
  show ez_P _ _ _ _ _ _ 47 [(5, .int 0), (4, .int 0), (3, .int 0), (0, .ref 112), (1, .int (nI n0)), (2, .int v)] [] (n, sl, kd, I5, L, Rf) _
  have hQ6 : zQ n kd I L Rf I I5 L T T.x (I 112 25) := by rw [hI5]; exact hQ2.lay
  refine ez_iconst (v := 1) dX11_steady_47 (by decide) ?_
  refine ez_istore (l' := [(6, .int 1), (5, .int 0), (4, .int 0), (3, .int 0), (0, .ref 112), (1, .int (nI n0)), (2, .int v)]) dX11_steady_48 (by decide) rfl ?_
  refine ez_eq (l2 := [(6, .int (nI (0 + 1))), (5, .int 0), (4, .int 0), (3, .int 0), (0, .ref 112), (1, .int (nI n0)), (2, .int v)]) (σ2 := (n, sl, kd, I5, L, Rf)) rfl rfl rfl rfl ?_
  refine ez_for n0 (fun k (a : (Nat → Nat → Int32) × (Nat → Nat → Int64) × Int32 × Int32 × Int32 × Int32) => ([(6, .int (nI (k + 1))), (5, .int a.2.2.2.2.2), (4, .int a.2.2.2.2.1), (3, .int a.2.2.2.1), (0, .ref 112), (1, .int (nI n0)), (2, .int v)], (n, sl, kd, a.1, a.2.1, Rf))) (fun k a => zQ n kd I L Rf I a.1 a.2.1 T (zhk T T.x k) a.2.2.1 ∧ (a.2.2.2.1, a.2.2.2.2.1, a.2.2.2.2.2) = a_steady T v k) ?_ ?_ n0 0 (I5, L, I 112 25, 0, 0, 0) (by omega) ⟨hQ6, rfl⟩
  · rintro k ⟨Ia, La, oa, sa, sb, sc⟩ hk ⟨hQ0, hac⟩ ih
    have hQ0 : zQ n kd I L Rf I Ia La T (zhk T T.x k) oa := hQ0
    have hac : (sa, sb, sc) = a_steady T v k := hac
    show ez_P _ _ _ _ _ _ 50 [(6, .int (nI (k + 1))), (5, .int sc), (4, .int sb), (3, .int sa), (0, .ref 112), (1, .int (nI n0)), (2, .int v)] [] (n, sl, kd, Ia, La, Rf) _
    refine ez_iload (i := 6) dX11_steady_50 rfl ?_
    refine ez_iload_n (i := 1) dX11_steady_52 rfl rfl ?_
    refine ez_icmp_gt (tgt := 115) dX11_steady_53 (by decide) (fun c7 => absurd c7 (Int32.not_lt.mpr (nI_le (by omega) (by omega)))) (fun c7 => ?_)
    refine ez_aload_n (i := 0) dX11_steady_56 rfl rfl ?_
    refine ez_aload_n (i := 0) dX11_steady_57 rfl rfl ?_
    refine ez_getR dX11_steady_58 flX11_49 (hF.lt (by decide)) (hF.kc (by decide) rfl) (hF.pt 117 rfl) ?_
    refine ez_callV (M1 := mX11_goHour) (rest := []) dX11_steady_61 mlX11_242 mvX11_goHour rfl (hF.lt (by decide)) (hF.kc (by decide) rfl) (Nat.le_of_ble_eq_true rfl) rfl (y_X11_goHour (I := Ia) (d + 89) hQ0.M.W hc7 (Or.inr rfl) hQ0.x (zhk_xr hO.x hO.wm.1 hO.wd hO.c k) (by omega) hO.wm hO.wd) zpH_ok ?_
    rintro _ _ ⟨rfl, I8, rfl, hq9⟩
    show ez_P _ _ _ _ _ _ 64 [(6, .int (nI (k + 1))), (5, .int sc), (4, .int sb), (3, .int sa), (0, .ref 112), (1, .int (nI n0)), (2, .int v)] [] (n, sl, kd, I8, La, Rf) _
    rw [hQ0.o] at hq9
    have hQ10 : zQ n kd I L Rf I I8 La T (zh1 T (zhw T (zhk T T.x k)) (zhk T T.x k)) (oa + zho T (zhw T (zhk T T.x k)) (zhk T T.x k)) := by exact hQ0.hp hq9
    refine ez_aload_n (i := 0) dX11_steady_64 rfl rfl ?_
    refine ez_getR dX11_steady_65 flX11_49 (hF.lt (by decide)) (hF.kc (by decide) rfl) (hF.pt 117 rfl) ?_
    refine ez_bipush (v := 22) dX11_steady_68 (by decide) ?_
    refine ez_iaN (k := 22) dX11_steady_70 (hF.lt (by decide)) (hF.ka (by decide) rfl) (by omega) (by decide) ?_
    refine ez_topE (y := (zh1 T (zhw T (zhk T T.x k)) (zhk T T.x k)) 22) (hQ10.x _ (by decide)) ?_
    refine ez_abs dX11_steady_71 xmX11_192 (Nat.le_of_ble_eq_true rfl) ?_
    refine ez_topE (y := z_ab ((zh1 T (zhw T (zhk T T.x k)) (zhk T T.x k)) 22)) rfl ?_
    refine ez_iload_n (i := 2) dX11_steady_74 rfl rfl ?_
    refine ez_icmp_gt (tgt := 85) dX11_steady_75 (by decide) (fun c11 => ?_) (fun c11 => ?_)
    · skip
      refine ez_iconst (v := 0) dX11_steady_85 (by decide) ?_
      refine ez_istore (l' := [(5, .int 0), (6, .int (nI (k + 1))), (4, .int sb), (3, .int sa), (0, .ref 112), (1, .int (nI n0)), (2, .int v)]) dX11_steady_86 (by decide) rfl ?_
      refine ez_iload (i := 5) dX11_steady_88 rfl ?_
      refine ez_iload_n (i := 3) dX11_steady_90 rfl rfl ?_
      refine ez_icmp_gt (tgt := 97) dX11_steady_91 (by decide) (fun c12 => ?_) (fun c12 => ?_)
      · skip
        refine ez_iload (i := 5) dX11_steady_97 rfl ?_
        refine ez_istore_n (l' := [(3, .int 0), (5, .int 0), (6, .int (nI (k + 1))), (4, .int sb), (0, .ref 112), (1, .int (nI n0)), (2, .int v)]) dX11_steady_99 rfl (by decide) rfl ?_
        refine ez_iload (i := 6) dX11_steady_100 rfl ?_
        refine ez_iload (i := 5) dX11_steady_102 rfl ?_
        refine ez_isub dX11_steady_104 ?_
        refine ez_iconst (v := 1) dX11_steady_105 (by decide) ?_
        refine ez_iadd dX11_steady_106 ?_
        refine ez_istore (l' := [(4, .int (((nI (k + 1)) - 0) + 1)), (3, .int 0), (5, .int 0), (6, .int (nI (k + 1))), (0, .ref 112), (1, .int (nI n0)), (2, .int v)]) dX11_steady_107 (by decide) rfl ?_
        refine ez_iinc (v := (nI (k + 2))) (l' := [(6, .int ((nI (k + 2)))), (4, .int (((nI (k + 1)) - 0) + 1)), (3, .int 0), (5, .int 0), (0, .ref 112), (1, .int (nI n0)), (2, .int v)]) dX11_steady_109 rfl (nI_1 _) (by decide) rfl ?_
        refine ez_goto (tgt := 50) dX11_steady_112 (by decide) ?_
        refine ez_sub (l' := [(6, .int ((nI (k + 2)))), (5, .int 0), (4, .int (((nI (k + 1)) - 0) + 1)), (3, .int 0), (0, .ref 112), (1, .int (nI n0)), (2, .int v)]) [0, 3, 1, 2, 4, 5, 6] rfl ?_
        exact ez_eq (l2 := [(6, .int (nI (k + 1 + 1))), (5, .int 0), (4, .int (((nI (k + 1)) - 0) + 1)), (3, .int 0), (0, .ref 112), (1, .int (nI n0)), (2, .int v)]) rfl rfl rfl rfl (ih (I8, La, oa + zho T (zhw T (zhk T T.x k)) (zhk T T.x k), 0, ((nI (k + 1)) - 0) + 1, 0) ⟨hQ10, (by rw [a_steady, ← hac, b_steady, show zhk T T.x (k + 1) = zh1 T (zhw T (zhk T T.x k)) (zhk T T.x k) from rfl]; simp only [if_pos c11, if_pos c12])⟩)
      · skip
        refine ez_goto (tgt := 109) dX11_steady_94 (by decide) ?_
        refine ez_iinc (v := (nI (k + 2))) (l' := [(6, .int ((nI (k + 2)))), (5, .int 0), (4, .int sb), (3, .int sa), (0, .ref 112), (1, .int (nI n0)), (2, .int v)]) dX11_steady_109 rfl (nI_1 _) (by decide) rfl ?_
        refine ez_goto (tgt := 50) dX11_steady_112 (by decide) ?_
        exact ez_eq (l2 := [(6, .int (nI (k + 1 + 1))), (5, .int 0), (4, .int sb), (3, .int sa), (0, .ref 112), (1, .int (nI n0)), (2, .int v)]) rfl rfl rfl rfl (ih (I8, La, oa + zho T (zhw T (zhk T T.x k)) (zhk T T.x k), sa, sb, 0) ⟨hQ10, (by rw [a_steady, ← hac, b_steady, show zhk T T.x (k + 1) = zh1 T (zhw T (zhk T T.x k)) (zhk T T.x k) from rfl]; simp only [if_pos c11, if_neg c12])⟩)
    · skip
      refine ez_iload (i := 5) dX11_steady_78 rfl ?_
      refine ez_iconst (v := 1) dX11_steady_80 (by decide) ?_
      refine ez_iadd dX11_steady_81 ?_
      refine ez_goto (tgt := 86) dX11_steady_82 (by decide) ?_
      refine ez_istore (l' := [(5, .int (sc + 1)), (6, .int (nI (k + 1))), (4, .int sb), (3, .int sa), (0, .ref 112), (1, .int (nI n0)), (2, .int v)]) dX11_steady_86 (by decide) rfl ?_
      refine ez_iload (i := 5) dX11_steady_88 rfl ?_
      refine ez_iload_n (i := 3) dX11_steady_90 rfl rfl ?_
      refine ez_icmp_gt (tgt := 97) dX11_steady_91 (by decide) (fun c13 => ?_) (fun c13 => ?_)
      · skip
        refine ez_iload (i := 5) dX11_steady_97 rfl ?_
        refine ez_istore_n (l' := [(3, .int (sc + 1)), (5, .int (sc + 1)), (6, .int (nI (k + 1))), (4, .int sb), (0, .ref 112), (1, .int (nI n0)), (2, .int v)]) dX11_steady_99 rfl (by decide) rfl ?_
        refine ez_iload (i := 6) dX11_steady_100 rfl ?_
        refine ez_iload (i := 5) dX11_steady_102 rfl ?_
        refine ez_isub dX11_steady_104 ?_
        refine ez_iconst (v := 1) dX11_steady_105 (by decide) ?_
        refine ez_iadd dX11_steady_106 ?_
        refine ez_istore (l' := [(4, .int (((nI (k + 1)) - (sc + 1)) + 1)), (3, .int (sc + 1)), (5, .int (sc + 1)), (6, .int (nI (k + 1))), (0, .ref 112), (1, .int (nI n0)), (2, .int v)]) dX11_steady_107 (by decide) rfl ?_
        refine ez_iinc (v := (nI (k + 2))) (l' := [(6, .int ((nI (k + 2)))), (4, .int (((nI (k + 1)) - (sc + 1)) + 1)), (3, .int (sc + 1)), (5, .int (sc + 1)), (0, .ref 112), (1, .int (nI n0)), (2, .int v)]) dX11_steady_109 rfl (nI_1 _) (by decide) rfl ?_
        refine ez_goto (tgt := 50) dX11_steady_112 (by decide) ?_
        refine ez_sub (l' := [(6, .int ((nI (k + 2)))), (5, .int (sc + 1)), (4, .int (((nI (k + 1)) - (sc + 1)) + 1)), (3, .int (sc + 1)), (0, .ref 112), (1, .int (nI n0)), (2, .int v)]) [0, 3, 1, 2, 4, 5, 6] rfl ?_
        exact ez_eq (l2 := [(6, .int (nI (k + 1 + 1))), (5, .int (sc + 1)), (4, .int (((nI (k + 1)) - (sc + 1)) + 1)), (3, .int (sc + 1)), (0, .ref 112), (1, .int (nI n0)), (2, .int v)]) rfl rfl rfl rfl (ih (I8, La, oa + zho T (zhw T (zhk T T.x k)) (zhk T T.x k), sc + 1, ((nI (k + 1)) - (sc + 1)) + 1, sc + 1) ⟨hQ10, (by rw [a_steady, ← hac, b_steady, show zhk T T.x (k + 1) = zh1 T (zhw T (zhk T T.x k)) (zhk T T.x k) from rfl]; simp only [if_neg c11, if_pos c13])⟩)
      · skip
        refine ez_goto (tgt := 109) dX11_steady_94 (by decide) ?_
        refine ez_iinc (v := (nI (k + 2))) (l' := [(6, .int ((nI (k + 2)))), (5, .int (sc + 1)), (4, .int sb), (3, .int sa), (0, .ref 112), (1, .int (nI n0)), (2, .int v)]) dX11_steady_109 rfl (nI_1 _) (by decide) rfl ?_
        refine ez_goto (tgt := 50) dX11_steady_112 (by decide) ?_
        exact ez_eq (l2 := [(6, .int (nI (k + 1 + 1))), (5, .int (sc + 1)), (4, .int sb), (3, .int sa), (0, .ref 112), (1, .int (nI n0)), (2, .int v)]) rfl rfl rfl rfl (ih (I8, La, oa + zho T (zhw T (zhk T T.x k)) (zhk T T.x k), sa, sb, sc + 1) ⟨hQ10, (by rw [a_steady, ← hac, b_steady, show zhk T T.x (k + 1) = zh1 T (zhw T (zhk T T.x k)) (zhk T T.x k) from rfl]; simp only [if_neg c11, if_neg c13])⟩)
  · rintro ⟨Ia, La, oa, sa, sb, sc⟩ ⟨hQ0, hac⟩
    have hQ0 : zQ n kd I L Rf I Ia La T (zhk T T.x n0) oa := hQ0
    have hac : (sa, sb, sc) = a_steady T v n0 := hac
    show ez_P _ _ _ _ _ _ 50 [(6, .int (nI (n0 + 1))), (5, .int sc), (4, .int sb), (3, .int sa), (0, .ref 112), (1, .int (nI n0)), (2, .int v)] [] (n, sl, kd, Ia, La, Rf) _
    refine ez_iload (i := 6) dX11_steady_50 rfl ?_
    refine ez_iload_n (i := 1) dX11_steady_52 rfl rfl ?_
    refine ez_icmp_gt (tgt := 115) dX11_steady_53 (by decide) (fun c14 => ?_) (fun c14 => absurd (nI_lt (by omega) (by omega)) c14)
    refine ez_aload_n (i := 0) dX11_steady_115 rfl rfl ?_
    refine ez_iconst (v := 0) dX11_steady_116 (by decide) ?_
    refine ez_pI dX11_steady_117 plX11_92 (hF.lt (by decide)) (hF.lx (by decide)) (hF.kc (by decide) rfl) rfl rfl ?_
    refine ez_nmI (fun I15 hI15 => ?_)
    have hQ16 : zQ n kd I L Rf I I15 La (T.w_rw []) (zhk T T.x n0) oa := by rw [hI15]; exact hQ0.row0
    refine ez_aload_n (i := 0) dX11_steady_120 rfl rfl ?_
    refine ez_iload (i := 4) dX11_steady_121 rfl ?_
    refine ez_i2l dX11_steady_123 rfl ?_
    refine ez_callV (M1 := mX11_tell) (rest := []) dX11_steady_124 mlX11_252 mvX11_tell rfl (hF.lt (by decide)) (hF.kc (by decide) rfl) (Nat.le_of_ble_eq_true rfl) rfl (y_X11_tell (I := I15) (L := La) (d + 399) hF (k := 0) hQ16.M.rw.1 (by decide) sb.toInt64) (eb_vok rfl) ?_
    rintro _ _ ⟨rfl, rfl⟩
    refine ez_nmI (fun I17 hI17 => ?_)
    refine ez_nmL (fun L18 hL18 => ?_)
    show ez_P _ _ _ _ _ _ 127 [(6, .int (nI (n0 + 1))), (5, .int sc), (4, .int sb), (3, .int sa), (0, .ref 112), (1, .int (nI n0)), (2, .int v)] [] (n, sl, kd, I17, L18, Rf) _
    have hQ19 : zQ n kd I L Rf I I17 L18 (T.w_rw [sb.toInt64]) (zhk T T.x n0) oa := by rw [hI17, hL18]; exact hQ16.tell sb.toInt64
    refine ez_iload_n (i := 3) dX11_steady_127 rfl rfl ?_
    refine ez_iret dX11_steady_128 rfl rfl ?_
    rw [show s_steady T (nI n0) v = (sa, T.w_rw [sb.toInt64]) from by unfold s_steady; rw [if_pos ⟨z_n19 (N := 99) hn1 hn (by decide), hv⟩, nI_clamp (by omega), ← hac]]
    exact hQ19.end
theorem y_X11_steady_no {n : Nat} {sl : Nat × Nat} {kd : Nat → Nat × Nat} {I : Nat → Nat → Int32} {L : Nat → Nat → Int64} {Rf : Nat → Nat → Option Nat} (d : Nat) {T : zT} {H : Nat} (hM : zM n kd I L Rf T) (hO : zOk H T) (hH : H ≤ 1000000000) {n1 v : Int32} (hn : ¬ (1 ≤ n1 ∧ n1 ≤ 99))  : zq mX11_steady (d + 400) [.ref 112, .int n1, .int v] (n, sl, kd, I, L, Rf) (zpM n sl kd I L Rf (some (.int (s_steady T n1 v).1)) (s_steady T n1 v).2) := by
  have hF := hM.F; have hc7 := hO.c
  have hsp : s_steady T n1 v = ((-1), T) := (by unfold s_steady; rw [if_neg (fun e => hn e.1)])
  rw [hsp]
  intro f B
  refine ez_meth pn_X.2.2.2.2.2.2.2.2.2.2.2 (Nat.le_of_ble_eq_true rfl) ?_
  show ez_P _ _ _ _ _ _ 0 [(0, .ref 112), (1, .int n1), (2, .int v)] [] (n, sl, kd, I, L, Rf) _
  refine ez_aload_n (i := 0) dX11_steady_0 rfl rfl ?_
  refine ez_iconst (v := 0) dX11_steady_1 (by decide) ?_
  refine ez_pI dX11_steady_2 plX11_89 (hF.lt (by decide)) (hF.lx (by decide)) (hF.kc (by decide) rfl) rfl rfl ?_
  refine ez_nmI (fun I1 hI1 => ?_)
  have hQ2 : zQ n kd I L Rf I I1 L T (I 124) (I 112 25) := by rw [hI1]; exact zQ.start hM
  refine ez_iload_n (i := 1) dX11_steady_5 rfl rfl ?_
  refine ez_iconst (v := 1) dX11_steady_6 (by decide) ?_
  refine ez_bipush (v := 99) dX11_steady_7 (by decide) ?_
  refine ez_callS (M1 := mX11_in) (rest := []) dX11_steady_9 mlX11_98 msX11_in rfl (Nat.le_of_ble_eq_true rfl) rfl (zq_b0 hn (zq_b (q_X11_in (d + 399) n1 1 99) (n, sl, kd, I1, L, Rf))) eb_rok ?_
  rintro _ _ ⟨rfl, rfl⟩
  show ez_P _ _ _ _ _ _ 12 [(0, .ref 112), (1, .int n1), (2, .int v)] (.int 0 :: []) _ _
  refine ez_if_eq (tgt := 25) dX11_steady_12 (by decide) (fun c3 => ?_) (fun c3 => absurd (by decide) c3)
  refine ez_iconst (v := (-1)) dX11_steady_25 (by decide) ?_
  refine ez_iret dX11_steady_26 rfl rfl ?_
  exact hQ2.end
theorem y_X11_steady_nx {n : Nat} {sl : Nat × Nat} {kd : Nat → Nat × Nat} {I : Nat → Nat → Int32} {L : Nat → Nat → Int64} {Rf : Nat → Nat → Option Nat} (d : Nat) {T : zT} {H : Nat} (hM : zM n kd I L Rf T) (hO : zOk H T) (hH : H ≤ 1000000000) {n1 v : Int32} (hn1 : 1 ≤ n1 ∧ n1 ≤ 99) (hn : ¬ (0 ≤ v ∧ v ≤ 20))  : zq mX11_steady (d + 400) [.ref 112, .int n1, .int v] (n, sl, kd, I, L, Rf) (zpM n sl kd I L Rf (some (.int (s_steady T n1 v).1)) (s_steady T n1 v).2) := by
  have hF := hM.F; have hc7 := hO.c
  have hsp : s_steady T n1 v = ((-1), T) := (by unfold s_steady; rw [if_neg (fun e => hn e.2)])
  rw [hsp]
  intro f B
  refine ez_meth pn_X.2.2.2.2.2.2.2.2.2.2.2 (Nat.le_of_ble_eq_true rfl) ?_
  show ez_P _ _ _ _ _ _ 0 [(0, .ref 112), (1, .int n1), (2, .int v)] [] (n, sl, kd, I, L, Rf) _
  refine ez_aload_n (i := 0) dX11_steady_0 rfl rfl ?_
  refine ez_iconst (v := 0) dX11_steady_1 (by decide) ?_
  refine ez_pI dX11_steady_2 plX11_89 (hF.lt (by decide)) (hF.lx (by decide)) (hF.kc (by decide) rfl) rfl rfl ?_
  refine ez_nmI (fun I1 hI1 => ?_)
  have hQ2 : zQ n kd I L Rf I I1 L T (I 124) (I 112 25) := by rw [hI1]; exact zQ.start hM
  refine ez_iload_n (i := 1) dX11_steady_5 rfl rfl ?_
  refine ez_iconst (v := 1) dX11_steady_6 (by decide) ?_
  refine ez_bipush (v := 99) dX11_steady_7 (by decide) ?_
  refine ez_callS (M1 := mX11_in) (rest := []) dX11_steady_9 mlX11_98 msX11_in rfl (Nat.le_of_ble_eq_true rfl) rfl (zq_b1 hn1 (zq_b (q_X11_in (d + 399) n1 1 99) (n, sl, kd, I1, L, Rf))) eb_rok ?_
  rintro _ _ ⟨rfl, rfl⟩
  show ez_P _ _ _ _ _ _ 12 [(0, .ref 112), (1, .int n1), (2, .int v)] (.int 1 :: []) _ _
  refine ez_if_eq (tgt := 25) dX11_steady_12 (by decide) (fun c3 => absurd c3 (by decide)) (fun c3 => ?_)
  refine ez_iload_n (i := 2) dX11_steady_15 rfl rfl ?_
  refine ez_iconst (v := 0) dX11_steady_16 (by decide) ?_
  refine ez_bipush (v := 20) dX11_steady_17 (by decide) ?_
  refine ez_callS (M1 := mX11_in) (rest := []) dX11_steady_19 mlX11_98 msX11_in rfl (Nat.le_of_ble_eq_true rfl) rfl (zq_b0 hn (zq_b (q_X11_in (d + 399) v 0 20) (n, sl, kd, I1, L, Rf))) eb_rok ?_
  rintro _ _ ⟨rfl, rfl⟩
  show ez_P _ _ _ _ _ _ 22 [(0, .ref 112), (1, .int n1), (2, .int v)] (.int 0 :: []) _ _
  refine ez_if_ne (tgt := 27) dX11_steady_22 (by decide) (fun c4 => absurd c4 (by decide)) (fun c4 => ?_)
  refine ez_iconst (v := (-1)) dX11_steady_25 (by decide) ?_
  refine ez_iret dX11_steady_26 rfl rfl ?_
  exact hQ2.end
theorem y_X11_steady {n : Nat} {sl : Nat × Nat} {kd : Nat → Nat × Nat} {I : Nat → Nat → Int32} {L : Nat → Nat → Int64} {Rf : Nat → Nat → Option Nat} (d : Nat) {T : zT} {H : Nat} (hM : zM n kd I L Rf T) (hO : zOk H T) (hH : H ≤ 1000000000) (n1 v : Int32) : zq mX11_steady (d + 400) [.ref 112, .int n1, .int v] (n, sl, kd, I, L, Rf) (zpM n sl kd I L Rf (some (.int (s_steady T n1 v).1)) (s_steady T n1 v).2) := by
  by_cases hn : 1 ≤ n1 ∧ n1 ≤ 99
  · by_cases hv : 0 ≤ v ∧ v ≤ 20
    · obtain ⟨n0, h1, hn0, rfl⟩ := z_pk1 (lo := 1) (N := 99) hn (by decide) (by decide)
      exact y_X11_steady_ok d hM hO hH h1 hn0 hv
    · exact y_X11_steady_nx d hM hO hH hn hv
  · exact y_X11_steady_no d hM hO hH hn
