/-! the reference: the watch's acts, one by one -/
section ZQL3
variable {n : Nat} {sl : Nat × Nat} {kd : Nat → Nat × Nat} {I I1 : Nat → Nat → Int32} {L : Nat → Nat → Int64} {Rf : Nat → Nat → Option Nat} {I0 g : Nat → Nat → Int32} {L0 : Nat → Nat → Int64} {T : zT} {x : Nat → Int32} {o : Int32}
theorem zQ.lay3 (h : zQ n kd I0 L0 Rf g I L T x o) : ∃ g2, zQ n kd I0 L0 Rf g2 (z_l26 I 113 123 0 26) L T x o ∧ g2 125 = g 125 ∧ ∀ k, k < 26 → g2 123 k = T.x k := by
  refine ⟨fun c => if c = 123 then z_l26 I 113 123 0 26 123 else g c, ⟨h.M.fr h.M.F (fun c _ _ _ _ h5 _ _ _ _ _ => z_l26_ne h5) (fun k _ => by rw [z_l26_ne (by decide)]) rfl rfl, fun k hk => by rw [z_l26_ne (by decide)]; exact h.x k hk, by rw [z_l26_ne (by decide)]; exact h.o, by rw [z_l26_ne (by decide)]; exact h.t, fun c hc => by rw [z_l26_ne (by omega)]; exact h.f c hc, fun c hc => ?_, by rw [z_l26_ne (by decide)]; exact h.g.2⟩, rfl, fun k hk => ?_⟩
  · by_cases e : c = 123
    · rw [e]; rfl
    · show _ = if c = 123 then _ else _
      rw [if_neg e, z_l26_ne e]; exact h.g.1 c hc
  · show z_l26 I 113 123 0 26 123 k = T.x k
    rw [← h.M.x k hk]
    unfold z_l26; rw [if_pos ⟨rfl, Nat.zero_le _, by omega⟩, Nat.sub_zero]
theorem zQ.rem3 {y : Nat → Int32} (h : zQ n kd I0 L0 Rf g I L T x o) (hu : T.un.length ≤ 12) (hy : ∀ k, k < 26 → g 123 k = y k) : zQ n kd I0 L0 Rf g (z_rem I 123 T.un.length) L (T.w_un (zpush T.un y)) x o := by
  have hf : ∀ k, k ≠ 22 → z_rem I 123 T.un.length 112 k = I 112 k := fun k hk => z_rem_f hk
  have hc : ∀ c, c ≠ 112 → c ≠ 122 → z_rem I 123 T.un.length c = I c := fun c h1 h2 => z_rem_ne h1 h2
  refine ⟨⟨h.M.F, h.M.ru, ?_, ?_, ?_, ?_, ?_, ?_, ?_, ?_, z_rem_un (by decide) (by decide) hu h.M.un (fun k hk => by rw [h.g.1 123 (by unfold zgc; omega)]; exact hy k hk), ?_, ?_, ?_⟩, ?_, ?_, (hf 9 (by decide)).trans h.t, fun c hh => by rw [hc c (by omega) (by omega)]; exact h.f c hh, fun c hh => by rw [hc c (by unfold zgc at hh; omega) (by unfold zgc at hh; omega)]; exact h.g.1 c hh, (hf 37 (by decide)).trans h.g.2⟩
  · rw [hf 18 (by decide), hc 119 (by decide) (by decide)]; exact h.M.rv
  · rw [hf 6 (by decide), hc 116 (by decide) (by decide)]; exact h.M.tx
  · rw [hf 8 (by decide)]; exact h.M.rw
  · rw [hc 114 (by decide) (by decide)]; exact h.M.pr
  · rw [hf 4 (by decide)]; exact h.M.wm
  · rw [hc 115 (by decide) (by decide)]; exact h.M.wd
  · rw [hf 1 (by decide)]; exact h.M.c
  · rw [hc 113 (by decide) (by decide)]; exact h.M.x
  · rw [hf 38 (by decide), hc 134 (by decide) (by decide), hc 135 (by decide) (by decide), hc 136 (by decide) (by decide)]; exact h.M.kp
  · rw [hf 30 (by decide), hc 126 (by decide) (by decide), hc 127 (by decide) (by decide), hc 128 (by decide) (by decide)]; exact h.M.sn
  · rw [hf 34 (by decide), hc 130 (by decide) (by decide), hc 131 (by decide) (by decide)]; exact h.M.hd
  · rw [hc 124 (by decide) (by decide)]; exact h.x
  · rw [hf 25 (by decide)]; exact h.o
end ZQL3
theorem nI_leN {k : Nat} (h : nI k ≤ 0) (hk : k < 2147483648) : k ≤ 0 := Nat.le_of_not_lt (fun g => nI_nle g hk h)
/-- where the act j stands -/
def zap (t : Nat → Int32) : Nat → Nat
  | 0 => 0
  | j + 1 => zap t j + z_ln (z_fa (t (zap t j)))
def z_a2 (t : Nat → Int32) (p : Nat) : Int32 := if t p = 109 then z_sg t (p + 2) else t (p + 2) - 48
/-- the row behind j acts, and the act j -/
def zwx (T : zT) : Nat → Nat → Int32
  | 0 => T.x
  | j + 1 => (q_act ((T.w_tx []).w_x (zwx T j)) (T.tt (zap T.tt j)) (T.tt (zap T.tt j + 1) - 48) (z_a2 T.tt (zap T.tt j))).2
def zwta (T : zT) (j : Nat) : Int32 × (Nat → Int32) := q_act ((T.w_tx []).w_x (zwx T j)) (T.tt (zap T.tt j)) (T.tt (zap T.tt j + 1) - 48) (z_a2 T.tt (zap T.tt j))
theorem zwx_s {T : zT} {j : Nat} : zwx T (j + 1) = (zwta T j).2 := rfl
def p_wat (T : zT) (j : Nat) : Bool := decide ((zwta T j).1 < 0)
theorem p_wat_y {T : zT} {j : Nat} (h : zba (zwta T j) = 0) : p_wat T j = true := by
  unfold p_wat; rw [decide_eq_true_eq]
  by_cases e : (zwta T j).1 < 0
  · exact e
  · unfold zba at h; rw [if_neg e] at h; exact absurd h (by decide)
theorem p_wat_n {T : zT} {j : Nat} (h : ¬ zba (zwta T j) = 0) : ¬ p_wat T j = true := by
  unfold p_wat; rw [decide_eq_true_eq]
  exact fun e => h (by unfold zba; rw [if_pos e])
def s_wat (T : zT) (k : Nat) : Int32 × zT := match zfd (p_wat T) k 0 with
  | some i => (nI i, (if i = 0 then (T.w_tx []).w_x (zwx T (i + 1)) else ((T.w_tx []).w_x (zwx T (i + 1))).w_un (zpush T.un T.x)).w_rw [1, (100 + zwx T (i + 1) 22).toInt64])
  | none => (nI k, (if k = 0 then (T.w_tx []).w_x (zwx T k) else ((T.w_tx []).w_x (zwx T k)).w_un (zpush T.un T.x)).w_rw [0, (100 + zwx T k 22).toInt64])
theorem zac_act {T T1 : zT} {J : Nat → Nat → Int32} {k p : Nat} (h : zac T J k p) : q_act T1 (J 125 (3 * k)) (J 125 (3 * k + 1)) (J 125 (3 * k + 2)) = q_act T1 (T.tt p) (T.tt (p + 1) - 48) (z_a2 T.tt p) := by
  obtain ⟨h1, h2, _, h4, h5, _⟩ := h
  rw [h1, h2]
  unfold q_act z_a2
  by_cases e1 : T.tt p = 110
  · rw [if_pos e1, if_pos e1]
  rw [if_neg e1, if_neg e1]
  by_cases e2 : T.tt p = 116
  · rw [if_pos e2, if_pos e2, if_neg (by rw [e2]; decide), h4 (Or.inl e2)]
  rw [if_neg e2, if_neg e2]
  by_cases e3 : T.tt p = 109
  · rw [if_pos e3, if_pos e3, if_pos e3, h5 e3]
  rw [if_neg e3, if_neg e3, if_neg e3]
  by_cases e4 : T.tt p = 101
  · rw [if_pos e4, if_pos e4]
  rw [if_neg e4, if_neg e4]
  by_cases e5 : T.tt p = 112
  · rw [if_pos e5, if_pos e5, h4 (Or.inr e5)]
  rw [if_neg e5, if_neg e5]
theorem zOk.wt0 {H : Nat} {T : zT} (h : zOk H T) : zOk H (T.w_tx []) := ⟨Nat.zero_le _, fun k hk => absurd hk (Nat.not_lt_zero k), h.rwl, h.pr, h.wm, h.wd, h.c, h.x, h.unl, h.un, h.kp, h.snl, h.sn, h.hdl, h.hd, h.rv⟩
theorem zxr.le {c H H2 : Nat} {x : Nat → Int32} (h : zxr c H x) (e : H ≤ H2) : zxr c H2 x := ⟨h.g, h.t, h.p, h.s, h.l, h.lg, h.ov, by obtain ⟨k, hk, g⟩ := h.h; exact ⟨k, by omega, g⟩⟩
theorem zOk.le {H H2 : Nat} {T : zT} (h : zOk H T) (e : H ≤ H2) : zOk H2 T := ⟨h.txl, h.tx, h.rwl, h.pr, h.wm, h.wd, h.c, h.x.le e, h.unl, fun y hy => (h.un y hy).le e, fun i y hy => (h.kp i y hy).le e, h.snl, h.sn, h.hdl, h.hd, h.rv⟩
theorem zwx_ok {T : zT} {H : Nat} (hO : zOk H T) : ∀ k, (∀ j, j < k → ∃ v, v < 10 ∧ T.tt (zap T.tt j + 1) - 48 = nI v) → zOk (H + 9 * k) ((T.w_tx []).w_x (zwx T k))
  | 0, _ => hO.wt0
  | k + 1, h => by
    have h1 := zwx_ok hO k (fun j hj => h j (by omega))
    have h2 := q_act_xr h1 (ch := T.tt (zap T.tt k)) (t := z_a2 T.tt (zap T.tt k)) (h k (by omega))
    exact ((hO.wt0.le (Nat.le_add_right _ _)).wx (h2.le (by omega)))
theorem y_act_w {n : Nat} {sl : Nat × Nat} {kd : Nat → Nat × Nat} {I : Nat → Nat → Int32} {L : Nat → Nat → Int64} {Rf : Nat → Nat → Option Nat} (d : Nat) {T : zT} {H : Nat} {I0 g : Nat → Nat → Int32} {L0 : Nat → Nat → Int64} {x : Nat → Int32} {o : Int32} {i k : Nat} (hQ : zQ n kd I0 L0 Rf g I L ((T.w_tx []).w_x (zwx T i)) x o) (hO : zOk H T) (hH : H ≤ 900000000) (hk : k ≤ 30) (hi : i < k) (hac : ∀ j, j < k → zac T g j (zap T.tt j)) : zq mX11_act (d + 350) [.ref 112, .int (g 125 (3 * i)), .int (g 125 (3 * i + 1)), .int (g 125 (3 * i + 2))] (n, sl, kd, I, L, Rf) (zpT n sl kd I0 L0 Rf g L ((T.w_tx []).w_x (zwx T i)) x (zba (zwta T i)) (zwta T i).2) := by
  have ha := hac i hi
  have h := y_X11_act d (sl := sl) hQ (zwx_ok hO i (fun j hj => (hac j (by omega)).2.2.1)) (by omega) (ch := g 125 (3 * i)) (b := g 125 (3 * i + 1)) (t := g 125 (3 * i + 2)) (by rw [ha.1]; exact ha.2.2.2.2.2) (by rw [ha.2.1]; exact ha.2.2.1)
  rw [zac_act ha] at h
  exact h
theorem y_watch2 {n : Nat} {sl : Nat × Nat} {kd : Nat → Nat × Nat} {I : Nat → Nat → Int32} {L : Nat → Nat → Int64} {Rf : Nat → Nat → Option Nat} (d : Nat) {T : zT} {H : Nat} {I0 g : Nat → Nat → Int32} {L0 : Nat → Nat → Int64} {x : Nat → Int32} {o : Int32} (hQ : zQ n kd I0 L0 Rf g I L (T.w_tx []) x o) (hO : zOk H T) (hH : H ≤ 900000000) {kk : Nat} (hkk : kk ≤ 30) (hac : ∀ j, j < kk → zac T g j (zap T.tt j)) (f : Nat) (B : Nat → Int32) : ez_P f B f (fun C => C = B) mX11_watch (d + 400) 58 [(1, .int (nI kk)), (0, .ref 112)] [] (n, sl, kd, I, L, Rf) (zpM n sl kd I0 L0 Rf (some (.int (s_wat T kk).1)) (s_wat T kk).2) := by
  have hF := hQ.M.F; have hc7 := hO.c
  refine ez_aload_n (i := 0) dX11_watch_58 rfl rfl ?_
  refine ez_getR dX11_watch_59 flX11_9 (hF.lt (by decide)) (hF.kc (by decide) rfl) (hF.pt 107 rfl) ?_
  refine ez_aload_n (i := 0) dX11_watch_62 rfl rfl ?_
  refine ez_getR dX11_watch_63 flX11_46 (hF.lt (by decide)) (hF.kc (by decide) rfl) (hF.pt 116 rfl) ?_
  refine ez_iconst (v := 0) dX11_watch_66 (by decide) ?_
  refine ez_callS (M1 := mX11_lay) (rest := []) dX11_watch_67 mlX11_231 msX11_lay rfl (Nat.le_of_ble_eq_true rfl) rfl (y_X11_lay (I := I) (L := L) (d + 399) hF (p := 113) (q := 123) (u := 0) (m := 26) ⟨hF.lt (by decide), hF.ka (by decide) rfl⟩ ⟨hF.lt (by decide), hF.ka (by decide) rfl, by decide⟩ (by decide) (by decide) (by decide)) (eb_vok rfl) ?_
  rintro _ _ ⟨rfl, rfl⟩
  obtain ⟨g2, hQ2, hg2, hg3⟩ := hQ.lay3
  refine ez_nmI (fun I1 hI1 => ?_)
  rw [← hI1] at hQ2
  replace hac : ∀ j, j < kk → zac T g2 j (zap T.tt j) := fun j hj => by have := hac j hj; unfold zac at this ⊢; rw [hg2]; exact this
  show ez_P _ _ _ _ _ _ 70 [(1, .int (nI kk)), (0, .ref 112)] [] (n, sl, kd, I1, L, Rf) _
  refine ez_iconst (v := 0) dX11_watch_70 (by decide) ?_
  refine ez_istore_n (l' := [(2, .int 0), (1, .int (nI kk)), (0, .ref 112)]) dX11_watch_71 rfl (by decide) rfl ?_
  refine ez_eq (l2 := [(2, .int (nI 0)), (1, .int (nI kk)), (0, .ref 112)]) (σ2 := (n, sl, kd, I1, L, Rf)) rfl (by rw [nI_0]) rfl rfl ?_
  refine ez_for kk (fun i (a : (Nat → Nat → Int32) × (Nat → Nat → Int64) × Int32) => ([(2, .int (nI i)), (1, .int (nI kk)), (0, .ref 112)], (n, sl, kd, a.1, a.2.1, Rf))) (fun i a => zQ n kd I0 L0 Rf g2 a.1 a.2.1 ((T.w_tx []).w_x (zwx T i)) x a.2.2 ∧ zfd (p_wat T) (kk - i) i = zfd (p_wat T) kk 0) ?_ ?_ kk 0 (I1, L, o) (by omega) ⟨hQ2, rfl⟩
  · rintro i ⟨Ia, La, oa⟩ hk ⟨hQ0, hex⟩ ih
    have hQ0 : zQ n kd I0 L0 Rf g2 Ia La ((T.w_tx []).w_x (zwx T i)) x oa := hQ0
    have hex : zfd (p_wat T) (kk - i) i = zfd (p_wat T) kk 0 := hex
    show ez_P _ _ _ _ _ _ 72 [(2, .int (nI i)), (1, .int (nI kk)), (0, .ref 112)] [] (n, sl, kd, Ia, La, Rf) _
    refine ez_iload_n (i := 2) dX11_watch_72 rfl rfl ?_
    refine ez_iload_n (i := 1) dX11_watch_73 rfl rfl ?_
    refine ez_icmp_ge (tgt := 118) dX11_watch_74 (by decide) (fun c2 => absurd c2 (nI_ge hk (by omega))) (fun c2 => ?_)
    refine ez_aload_n (i := 0) dX11_watch_77 rfl rfl ?_
    refine ez_aload_n (i := 0) dX11_watch_78 rfl rfl ?_
    refine ez_getR dX11_watch_79 flX11_52 (hF.lt (by decide)) (hF.kc (by decide) rfl) (hF.pt 118 rfl) ?_
    refine ez_iconst (v := 3) dX11_watch_82 (by decide) ?_
    refine ez_iload_n (i := 2) dX11_watch_83 rfl rfl ?_
    refine ez_imul dX11_watch_84 ?_
    refine ez_topE (y := nI (3 * i)) (nI_mul _ _) ?_
    refine ez_iaN (k := (3 * i)) dX11_watch_85 (hF.lt (by decide)) (hF.ka (by decide) rfl) (by omega) (by decide) ?_
    refine ez_topE (y := g2 125 (3 * i)) (congrFun (hQ0.g.1 125 (by unfold zgc; omega)) _) ?_
    refine ez_aload_n (i := 0) dX11_watch_86 rfl rfl ?_
    refine ez_getR dX11_watch_87 flX11_52 (hF.lt (by decide)) (hF.kc (by decide) rfl) (hF.pt 118 rfl) ?_
    refine ez_iconst (v := 3) dX11_watch_90 (by decide) ?_
    refine ez_iload_n (i := 2) dX11_watch_91 rfl rfl ?_
    refine ez_imul dX11_watch_92 ?_
    refine ez_topE (y := nI (3 * i)) (nI_mul _ _) ?_
    refine ez_iconst (v := 1) dX11_watch_93 (by decide) ?_
    refine ez_iadd dX11_watch_94 ?_
    refine ez_topE (y := nI ((3 * i) + 1)) (nI_add _ _) ?_
    refine ez_iaN (k := ((3 * i) + 1)) dX11_watch_95 (hF.lt (by decide)) (hF.ka (by decide) rfl) (by omega) (by decide) ?_
    refine ez_topE (y := g2 125 ((3 * i) + 1)) (congrFun (hQ0.g.1 125 (by unfold zgc; omega)) _) ?_
    refine ez_aload_n (i := 0) dX11_watch_96 rfl rfl ?_
    refine ez_getR dX11_watch_97 flX11_52 (hF.lt (by decide)) (hF.kc (by decide) rfl) (hF.pt 118 rfl) ?_
    refine ez_iconst (v := 3) dX11_watch_100 (by decide) ?_
    refine ez_iload_n (i := 2) dX11_watch_101 rfl rfl ?_
    refine ez_imul dX11_watch_102 ?_
    refine ez_topE (y := nI (3 * i)) (nI_mul _ _) ?_
    refine ez_iconst (v := 2) dX11_watch_103 (by decide) ?_
    refine ez_iadd dX11_watch_104 ?_
    refine ez_topE (y := nI ((3 * i) + 2)) (nI_add _ _) ?_
    refine ez_iaN (k := ((3 * i) + 2)) dX11_watch_105 (hF.lt (by decide)) (hF.ka (by decide) rfl) (by omega) (by decide) ?_
    refine ez_topE (y := g2 125 ((3 * i) + 2)) (congrFun (hQ0.g.1 125 (by unfold zgc; omega)) _) ?_
    refine ez_callV (M1 := mX11_act) (rest := []) dX11_watch_106 mlX11_274 mvX11_act rfl (hF.lt (by decide)) (hF.kc (by decide) rfl) (Nat.le_of_ble_eq_true rfl) rfl (y_act_w (I := Ia) (L := La) (d + 49) hQ0 hO hH hkk hk hac) zpT_ok ?_
    rintro _ _ ⟨rfl, I9, o9, rfl, hQ9⟩
    show ez_P _ _ _ _ _ _ 109 [(2, .int (nI i)), (1, .int (nI kk)), (0, .ref 112)] (.int (zba (zwta T i)) :: []) (n, sl, kd, I9, La, Rf) _
    replace hQ9 : zQ n kd I0 L0 Rf g2 I9 La ((T.w_tx []).w_x (zwx T (i + 1))) x o9 := hQ9
    refine ez_if_eq (tgt := 118) dX11_watch_109 (by decide) (fun c3 => ?_) (fun c3 => ?_)
    · skip
      refine ez_iload_n (i := 2) dX11_watch_118 rfl rfl ?_
      refine ez_if_le (tgt := 130) dX11_watch_119 (by decide) (fun c4 => ?_) (fun c4 => ?_)
      · skip
        refine ez_aload_n (i := 0) dX11_watch_130 rfl rfl ?_
        refine ez_iconst (v := 0) dX11_watch_131 (by decide) ?_
        refine ez_pI dX11_watch_132 plX11_92 (hF.lt (by decide)) (hF.lx (by decide)) (hF.kc (by decide) rfl) rfl rfl ?_
        refine ez_nmI (fun I5 hI5 => ?_)
        have hQ6 : zQ n kd I0 L0 Rf g2 I5 La (((T.w_tx []).w_x (zwx T (i + 1))).w_rw []) x o9 := by rw [hI5]; exact hQ9.row0
        refine ez_aload_n (i := 0) dX11_watch_135 rfl rfl ?_
        refine ez_iload_n (i := 2) dX11_watch_136 rfl rfl ?_
        refine ez_iload_n (i := 1) dX11_watch_137 rfl rfl ?_
        refine ez_icmp_ge (tgt := 145) dX11_watch_138 (by decide) (fun c7 => absurd c7 (nI_ge hk (by omega))) (fun c7 => ?_)
        refine ez_lconst (v := 1) dX11_watch_141 (by decide) ?_
        refine ez_goto (tgt := 146) dX11_watch_142 (by decide) ?_
        refine ez_callV (M1 := mX11_tell) (rest := []) dX11_watch_146 mlX11_252 mvX11_tell rfl (hF.lt (by decide)) (hF.kc (by decide) rfl) (Nat.le_of_ble_eq_true rfl) rfl (y_X11_tell (I := I5) (L := La) (d + 399) hF (k := 0) hQ6.M.rw.1 (by decide) 1) (eb_vok rfl) ?_
        rintro _ _ ⟨rfl, rfl⟩
        refine ez_nmI (fun I8 hI8 => ?_)
        refine ez_nmL (fun L9 hL9 => ?_)
        show ez_P _ _ _ _ _ _ 149 [(2, .int (nI i)), (1, .int (nI kk)), (0, .ref 112)] [] (n, sl, kd, I8, L9, Rf) _
        have hQ10 : zQ n kd I0 L0 Rf g2 I8 L9 (((T.w_tx []).w_x (zwx T (i + 1))).w_rw [1]) x o9 := by rw [hI8, hL9]; exact hQ6.tell 1
        refine ez_aload_n (i := 0) dX11_watch_149 rfl rfl ?_
        refine ez_bipush (v := 100) dX11_watch_150 (by decide) ?_
        refine ez_aload_n (i := 0) dX11_watch_152 rfl rfl ?_
        refine ez_getR dX11_watch_153 flX11_9 (hF.lt (by decide)) (hF.kc (by decide) rfl) (hF.pt 107 rfl) ?_
        refine ez_bipush (v := 22) dX11_watch_156 (by decide) ?_
        refine ez_iaN (k := 22) dX11_watch_158 (hF.lt (by decide)) (hF.ka (by decide) rfl) (by omega) (by decide) ?_
        refine ez_topE (y := (zwx T (i + 1)) 22) (hQ10.M.x _ (by decide)) ?_
        refine ez_iadd dX11_watch_159 ?_
        refine ez_i2l dX11_watch_160 rfl ?_
        refine ez_callV (M1 := mX11_tell) (rest := []) dX11_watch_161 mlX11_252 mvX11_tell rfl (hF.lt (by decide)) (hF.kc (by decide) rfl) (Nat.le_of_ble_eq_true rfl) rfl (y_X11_tell (I := I8) (L := L9) (d + 399) hF (k := 1) hQ10.M.rw.1 (by decide) ((100 + ((zwx T (i + 1)) 22)).toInt64)) (eb_vok rfl) ?_
        rintro _ _ ⟨rfl, rfl⟩
        refine ez_nmI (fun I11 hI11 => ?_)
        refine ez_nmL (fun L12 hL12 => ?_)
        show ez_P _ _ _ _ _ _ 164 [(2, .int (nI i)), (1, .int (nI kk)), (0, .ref 112)] [] (n, sl, kd, I11, L12, Rf) _
        have hQ13 : zQ n kd I0 L0 Rf g2 I11 L12 (((T.w_tx []).w_x (zwx T (i + 1))).w_rw [1, (100 + ((zwx T (i + 1)) 22)).toInt64]) x o9 := by rw [hI11, hL12]; exact hQ10.tell ((100 + ((zwx T (i + 1)) 22)).toInt64)
        refine ez_iload_n (i := 2) dX11_watch_164 rfl rfl ?_
        refine ez_iret dX11_watch_165 rfl rfl ?_
        rw [show s_wat T kk = (nI i, ((T.w_tx []).w_x (zwx T (i + 1))).w_rw [1, (100 + (zwx T (i + 1)) 22).toInt64]) from by unfold s_wat; rw [(zfd_hit hex hk (p_wat_y c3))]; simp only; rw [if_pos (show i = 0 from Nat.le_zero.mp (nI_leN c4 (by omega)))]]
        exact hQ13.end
      · skip
        refine ez_aload_n (i := 0) dX11_watch_122 rfl rfl ?_
        refine ez_aload_n (i := 0) dX11_watch_123 rfl rfl ?_
        refine ez_getR dX11_watch_124 flX11_46 (hF.lt (by decide)) (hF.kc (by decide) rfl) (hF.pt 116 rfl) ?_
        refine ez_callV (M1 := mX11_remember) (rest := []) dX11_watch_127 mlX11_246 mvX11_remember rfl (hF.lt (by decide)) (hF.kc (by decide) rfl) (Nat.le_of_ble_eq_true rfl) rfl (y_X11_remember (I := I9) (p := 123) (d + 398) hF (Or.inr rfl) (hF.ka (by decide) rfl) (u := T.un.length) hQ9.M.un.1 hO.unl) (eb_vok rfl) ?_
        rintro _ _ ⟨rfl, rfl⟩
        refine ez_nmI (fun I14 hI14 => ?_)
        show ez_P _ _ _ _ _ _ 130 [(2, .int (nI i)), (1, .int (nI kk)), (0, .ref 112)] [] (n, sl, kd, I14, La, Rf) _
        have hQ15 : zQ n kd I0 L0 Rf g2 I14 La (((T.w_tx []).w_x (zwx T (i + 1))).w_un (zpush T.un T.x)) x o9 := by rw [hI14]; exact hQ9.rem3 hO.unl hg3
        refine ez_aload_n (i := 0) dX11_watch_130 rfl rfl ?_
        refine ez_iconst (v := 0) dX11_watch_131 (by decide) ?_
        refine ez_pI dX11_watch_132 plX11_92 (hF.lt (by decide)) (hF.lx (by decide)) (hF.kc (by decide) rfl) rfl rfl ?_
        refine ez_nmI (fun I16 hI16 => ?_)
        have hQ17 : zQ n kd I0 L0 Rf g2 I16 La ((((T.w_tx []).w_x (zwx T (i + 1))).w_un (zpush T.un T.x)).w_rw []) x o9 := by rw [hI16]; exact hQ15.row0
        refine ez_aload_n (i := 0) dX11_watch_135 rfl rfl ?_
        refine ez_iload_n (i := 2) dX11_watch_136 rfl rfl ?_
        refine ez_iload_n (i := 1) dX11_watch_137 rfl rfl ?_
        refine ez_icmp_ge (tgt := 145) dX11_watch_138 (by decide) (fun c18 => absurd c18 (nI_ge hk (by omega))) (fun c18 => ?_)
        refine ez_lconst (v := 1) dX11_watch_141 (by decide) ?_
        refine ez_goto (tgt := 146) dX11_watch_142 (by decide) ?_
        refine ez_callV (M1 := mX11_tell) (rest := []) dX11_watch_146 mlX11_252 mvX11_tell rfl (hF.lt (by decide)) (hF.kc (by decide) rfl) (Nat.le_of_ble_eq_true rfl) rfl (y_X11_tell (I := I16) (L := La) (d + 399) hF (k := 0) hQ17.M.rw.1 (by decide) 1) (eb_vok rfl) ?_
        rintro _ _ ⟨rfl, rfl⟩
        refine ez_nmI (fun I19 hI19 => ?_)
        refine ez_nmL (fun L20 hL20 => ?_)
        show ez_P _ _ _ _ _ _ 149 [(2, .int (nI i)), (1, .int (nI kk)), (0, .ref 112)] [] (n, sl, kd, I19, L20, Rf) _
        have hQ21 : zQ n kd I0 L0 Rf g2 I19 L20 ((((T.w_tx []).w_x (zwx T (i + 1))).w_un (zpush T.un T.x)).w_rw [1]) x o9 := by rw [hI19, hL20]; exact hQ17.tell 1
        refine ez_aload_n (i := 0) dX11_watch_149 rfl rfl ?_
        refine ez_bipush (v := 100) dX11_watch_150 (by decide) ?_
        refine ez_aload_n (i := 0) dX11_watch_152 rfl rfl ?_
        refine ez_getR dX11_watch_153 flX11_9 (hF.lt (by decide)) (hF.kc (by decide) rfl) (hF.pt 107 rfl) ?_
        refine ez_bipush (v := 22) dX11_watch_156 (by decide) ?_
        refine ez_iaN (k := 22) dX11_watch_158 (hF.lt (by decide)) (hF.ka (by decide) rfl) (by omega) (by decide) ?_
        refine ez_topE (y := (zwx T (i + 1)) 22) (hQ21.M.x _ (by decide)) ?_
        refine ez_iadd dX11_watch_159 ?_
        refine ez_i2l dX11_watch_160 rfl ?_
        refine ez_callV (M1 := mX11_tell) (rest := []) dX11_watch_161 mlX11_252 mvX11_tell rfl (hF.lt (by decide)) (hF.kc (by decide) rfl) (Nat.le_of_ble_eq_true rfl) rfl (y_X11_tell (I := I19) (L := L20) (d + 399) hF (k := 1) hQ21.M.rw.1 (by decide) ((100 + ((zwx T (i + 1)) 22)).toInt64)) (eb_vok rfl) ?_
        rintro _ _ ⟨rfl, rfl⟩
        refine ez_nmI (fun I22 hI22 => ?_)
        refine ez_nmL (fun L23 hL23 => ?_)
        show ez_P _ _ _ _ _ _ 164 [(2, .int (nI i)), (1, .int (nI kk)), (0, .ref 112)] [] (n, sl, kd, I22, L23, Rf) _
        have hQ24 : zQ n kd I0 L0 Rf g2 I22 L23 ((((T.w_tx []).w_x (zwx T (i + 1))).w_un (zpush T.un T.x)).w_rw [1, (100 + ((zwx T (i + 1)) 22)).toInt64]) x o9 := by rw [hI22, hL23]; exact hQ21.tell ((100 + ((zwx T (i + 1)) 22)).toInt64)
        refine ez_iload_n (i := 2) dX11_watch_164 rfl rfl ?_
        refine ez_iret dX11_watch_165 rfl rfl ?_
        rw [show s_wat T kk = (nI i, (((T.w_tx []).w_x (zwx T (i + 1))).w_un (zpush T.un T.x)).w_rw [1, (100 + (zwx T (i + 1)) 22).toInt64]) from by unfold s_wat; rw [(zfd_hit hex hk (p_wat_y c3))]; simp only; rw [if_neg (show ¬ i = 0 from fun e => c4 (by rw [e]; decide))]]
        exact hQ24.end
    · skip
      refine ez_iinc (v := (nI (i + 1))) (l' := [(2, .int ((nI (i + 1)))), (1, .int (nI kk)), (0, .ref 112)]) dX11_watch_112 rfl (nI_1 _) (by decide) rfl ?_
      refine ez_goto (tgt := 72) dX11_watch_115 (by decide) ?_
      exact ez_eq (l2 := [(2, .int (nI (i + 1))), (1, .int (nI kk)), (0, .ref 112)]) rfl rfl rfl rfl (ih (I9, La, o9) ⟨hQ9, zfd_step hex hk (p_wat_n c3)⟩)
  · rintro ⟨Ia, La, oa⟩ ⟨hQ0, hex⟩
    have hQ0 : zQ n kd I0 L0 Rf g2 Ia La ((T.w_tx []).w_x (zwx T kk)) x oa := hQ0
    have hex : zfd (p_wat T) (kk - kk) kk = zfd (p_wat T) kk 0 := hex
    show ez_P _ _ _ _ _ _ 72 [(2, .int (nI kk)), (1, .int (nI kk)), (0, .ref 112)] [] (n, sl, kd, Ia, La, Rf) _
    refine ez_iload_n (i := 2) dX11_watch_72 rfl rfl ?_
    refine ez_iload_n (i := 1) dX11_watch_73 rfl rfl ?_
    refine ez_icmp_ge (tgt := 118) dX11_watch_74 (by decide) (fun c25 => ?_) (fun c25 => absurd (nI_le (Nat.le_refl _) (by omega)) c25)
    refine ez_iload_n (i := 2) dX11_watch_118 rfl rfl ?_
    refine ez_if_le (tgt := 130) dX11_watch_119 (by decide) (fun c26 => ?_) (fun c26 => ?_)
    · skip
      refine ez_aload_n (i := 0) dX11_watch_130 rfl rfl ?_
      refine ez_iconst (v := 0) dX11_watch_131 (by decide) ?_
      refine ez_pI dX11_watch_132 plX11_92 (hF.lt (by decide)) (hF.lx (by decide)) (hF.kc (by decide) rfl) rfl rfl ?_
      refine ez_nmI (fun I27 hI27 => ?_)
      have hQ28 : zQ n kd I0 L0 Rf g2 I27 La (((T.w_tx []).w_x (zwx T kk)).w_rw []) x oa := by rw [hI27]; exact hQ0.row0
      refine ez_aload_n (i := 0) dX11_watch_135 rfl rfl ?_
      refine ez_iload_n (i := 2) dX11_watch_136 rfl rfl ?_
      refine ez_iload_n (i := 1) dX11_watch_137 rfl rfl ?_
      refine ez_icmp_ge (tgt := 145) dX11_watch_138 (by decide) (fun c29 => ?_) (fun c29 => absurd (nI_le (Nat.le_refl _) (by omega)) c29)
      refine ez_lconst (v := 0) dX11_watch_145 (by decide) ?_
      refine ez_callV (M1 := mX11_tell) (rest := []) dX11_watch_146 mlX11_252 mvX11_tell rfl (hF.lt (by decide)) (hF.kc (by decide) rfl) (Nat.le_of_ble_eq_true rfl) rfl (y_X11_tell (I := I27) (L := La) (d + 399) hF (k := 0) hQ28.M.rw.1 (by decide) 0) (eb_vok rfl) ?_
      rintro _ _ ⟨rfl, rfl⟩
      refine ez_nmI (fun I30 hI30 => ?_)
      refine ez_nmL (fun L31 hL31 => ?_)
      show ez_P _ _ _ _ _ _ 149 [(2, .int (nI kk)), (1, .int (nI kk)), (0, .ref 112)] [] (n, sl, kd, I30, L31, Rf) _
      have hQ32 : zQ n kd I0 L0 Rf g2 I30 L31 (((T.w_tx []).w_x (zwx T kk)).w_rw [0]) x oa := by rw [hI30, hL31]; exact hQ28.tell 0
      refine ez_aload_n (i := 0) dX11_watch_149 rfl rfl ?_
      refine ez_bipush (v := 100) dX11_watch_150 (by decide) ?_
      refine ez_aload_n (i := 0) dX11_watch_152 rfl rfl ?_
      refine ez_getR dX11_watch_153 flX11_9 (hF.lt (by decide)) (hF.kc (by decide) rfl) (hF.pt 107 rfl) ?_
      refine ez_bipush (v := 22) dX11_watch_156 (by decide) ?_
      refine ez_iaN (k := 22) dX11_watch_158 (hF.lt (by decide)) (hF.ka (by decide) rfl) (by omega) (by decide) ?_
      refine ez_topE (y := (zwx T kk) 22) (hQ32.M.x _ (by decide)) ?_
      refine ez_iadd dX11_watch_159 ?_
      refine ez_i2l dX11_watch_160 rfl ?_
      refine ez_callV (M1 := mX11_tell) (rest := []) dX11_watch_161 mlX11_252 mvX11_tell rfl (hF.lt (by decide)) (hF.kc (by decide) rfl) (Nat.le_of_ble_eq_true rfl) rfl (y_X11_tell (I := I30) (L := L31) (d + 399) hF (k := 1) hQ32.M.rw.1 (by decide) ((100 + ((zwx T kk) 22)).toInt64)) (eb_vok rfl) ?_
      rintro _ _ ⟨rfl, rfl⟩
      refine ez_nmI (fun I33 hI33 => ?_)
      refine ez_nmL (fun L34 hL34 => ?_)
      show ez_P _ _ _ _ _ _ 164 [(2, .int (nI kk)), (1, .int (nI kk)), (0, .ref 112)] [] (n, sl, kd, I33, L34, Rf) _
      have hQ35 : zQ n kd I0 L0 Rf g2 I33 L34 (((T.w_tx []).w_x (zwx T kk)).w_rw [0, (100 + ((zwx T kk) 22)).toInt64]) x oa := by rw [hI33, hL34]; exact hQ32.tell ((100 + ((zwx T kk) 22)).toInt64)
      refine ez_iload_n (i := 2) dX11_watch_164 rfl rfl ?_
      refine ez_iret dX11_watch_165 rfl rfl ?_
      rw [show s_wat T kk = (nI kk, ((T.w_tx []).w_x (zwx T kk)).w_rw [0, (100 + (zwx T kk) 22).toInt64]) from by unfold s_wat; rw [(zfd_end hex)]; simp only; rw [if_pos (show kk = 0 from Nat.le_zero.mp (nI_leN c26 (by omega)))]]
      exact hQ35.end
    · skip
      refine ez_aload_n (i := 0) dX11_watch_122 rfl rfl ?_
      refine ez_aload_n (i := 0) dX11_watch_123 rfl rfl ?_
      refine ez_getR dX11_watch_124 flX11_46 (hF.lt (by decide)) (hF.kc (by decide) rfl) (hF.pt 116 rfl) ?_
      refine ez_callV (M1 := mX11_remember) (rest := []) dX11_watch_127 mlX11_246 mvX11_remember rfl (hF.lt (by decide)) (hF.kc (by decide) rfl) (Nat.le_of_ble_eq_true rfl) rfl (y_X11_remember (I := Ia) (p := 123) (d + 398) hF (Or.inr rfl) (hF.ka (by decide) rfl) (u := T.un.length) hQ0.M.un.1 hO.unl) (eb_vok rfl) ?_
      rintro _ _ ⟨rfl, rfl⟩
      refine ez_nmI (fun I36 hI36 => ?_)
      show ez_P _ _ _ _ _ _ 130 [(2, .int (nI kk)), (1, .int (nI kk)), (0, .ref 112)] [] (n, sl, kd, I36, La, Rf) _
      have hQ37 : zQ n kd I0 L0 Rf g2 I36 La (((T.w_tx []).w_x (zwx T kk)).w_un (zpush T.un T.x)) x oa := by rw [hI36]; exact hQ0.rem3 hO.unl hg3
      refine ez_aload_n (i := 0) dX11_watch_130 rfl rfl ?_
      refine ez_iconst (v := 0) dX11_watch_131 (by decide) ?_
      refine ez_pI dX11_watch_132 plX11_92 (hF.lt (by decide)) (hF.lx (by decide)) (hF.kc (by decide) rfl) rfl rfl ?_
      refine ez_nmI (fun I38 hI38 => ?_)
      have hQ39 : zQ n kd I0 L0 Rf g2 I38 La ((((T.w_tx []).w_x (zwx T kk)).w_un (zpush T.un T.x)).w_rw []) x oa := by rw [hI38]; exact hQ37.row0
      refine ez_aload_n (i := 0) dX11_watch_135 rfl rfl ?_
      refine ez_iload_n (i := 2) dX11_watch_136 rfl rfl ?_
      refine ez_iload_n (i := 1) dX11_watch_137 rfl rfl ?_
      refine ez_icmp_ge (tgt := 145) dX11_watch_138 (by decide) (fun c40 => ?_) (fun c40 => absurd (nI_le (Nat.le_refl _) (by omega)) c40)
      refine ez_lconst (v := 0) dX11_watch_145 (by decide) ?_
      refine ez_callV (M1 := mX11_tell) (rest := []) dX11_watch_146 mlX11_252 mvX11_tell rfl (hF.lt (by decide)) (hF.kc (by decide) rfl) (Nat.le_of_ble_eq_true rfl) rfl (y_X11_tell (I := I38) (L := La) (d + 399) hF (k := 0) hQ39.M.rw.1 (by decide) 0) (eb_vok rfl) ?_
      rintro _ _ ⟨rfl, rfl⟩
      refine ez_nmI (fun I41 hI41 => ?_)
      refine ez_nmL (fun L42 hL42 => ?_)
      show ez_P _ _ _ _ _ _ 149 [(2, .int (nI kk)), (1, .int (nI kk)), (0, .ref 112)] [] (n, sl, kd, I41, L42, Rf) _
      have hQ43 : zQ n kd I0 L0 Rf g2 I41 L42 ((((T.w_tx []).w_x (zwx T kk)).w_un (zpush T.un T.x)).w_rw [0]) x oa := by rw [hI41, hL42]; exact hQ39.tell 0
      refine ez_aload_n (i := 0) dX11_watch_149 rfl rfl ?_
      refine ez_bipush (v := 100) dX11_watch_150 (by decide) ?_
      refine ez_aload_n (i := 0) dX11_watch_152 rfl rfl ?_
      refine ez_getR dX11_watch_153 flX11_9 (hF.lt (by decide)) (hF.kc (by decide) rfl) (hF.pt 107 rfl) ?_
      refine ez_bipush (v := 22) dX11_watch_156 (by decide) ?_
      refine ez_iaN (k := 22) dX11_watch_158 (hF.lt (by decide)) (hF.ka (by decide) rfl) (by omega) (by decide) ?_
      refine ez_topE (y := (zwx T kk) 22) (hQ43.M.x _ (by decide)) ?_
      refine ez_iadd dX11_watch_159 ?_
      refine ez_i2l dX11_watch_160 rfl ?_
      refine ez_callV (M1 := mX11_tell) (rest := []) dX11_watch_161 mlX11_252 mvX11_tell rfl (hF.lt (by decide)) (hF.kc (by decide) rfl) (Nat.le_of_ble_eq_true rfl) rfl (y_X11_tell (I := I41) (L := L42) (d + 399) hF (k := 1) hQ43.M.rw.1 (by decide) ((100 + ((zwx T kk) 22)).toInt64)) (eb_vok rfl) ?_
      rintro _ _ ⟨rfl, rfl⟩
      refine ez_nmI (fun I44 hI44 => ?_)
      refine ez_nmL (fun L45 hL45 => ?_)
      show ez_P _ _ _ _ _ _ 164 [(2, .int (nI kk)), (1, .int (nI kk)), (0, .ref 112)] [] (n, sl, kd, I44, L45, Rf) _
      have hQ46 : zQ n kd I0 L0 Rf g2 I44 L45 ((((T.w_tx []).w_x (zwx T kk)).w_un (zpush T.un T.x)).w_rw [0, (100 + ((zwx T kk) 22)).toInt64]) x oa := by rw [hI44, hL45]; exact hQ43.tell ((100 + ((zwx T kk) 22)).toInt64)
      refine ez_iload_n (i := 2) dX11_watch_164 rfl rfl ?_
      refine ez_iret dX11_watch_165 rfl rfl ?_
      rw [show s_wat T kk = (nI kk, (((T.w_tx []).w_x (zwx T kk)).w_un (zpush T.un T.x)).w_rw [0, (100 + (zwx T kk) 22).toInt64]) from by unfold s_wat; rw [(zfd_end hex)]; simp only; rw [if_neg (show ¬ kk = 0 from fun e => c26 (by rw [e]; decide))]]
      exact hQ46.end
