/-! the reference: undo, keep, again, sign, price, row, sheet -/
/-- the first k of the row now, from cell p at u -/
def z_bk (I : Nat → Nat → Int32) (p u k : Nat) : Nat → Nat → Int32 := fun a i => if a = 113 ∧ i < k then I p (u + i) else I a i
theorem z_bk0 (I : Nat → Nat → Int32) (p u : Nat) : z_bk I p u 0 = I := by funext a i; unfold z_bk; rw [if_neg (by omega)]
theorem z_bks {I : Nat → Nat → Int32} {p u k : Nat} (hp : p ≠ 113) : z_set (z_bk I p u k) 113 k (z_bk I p u k p (u + k)) = z_bk I p u (k + 1) := by
  funext a i
  simp only [z_set, z_bk]
  rw [if_neg (show ¬ (p = 113 ∧ u + k < k) from fun e => hp e.1)]
  by_cases ha : a = 113
  · by_cases hi : i = k
    · rw [if_pos ⟨ha, hi⟩, if_pos ⟨ha, by omega⟩, hi]
    · rw [if_neg (fun e => hi e.2)]
      by_cases h2 : i < k
      · rw [if_pos ⟨ha, h2⟩, if_pos ⟨ha, by omega⟩]
      · rw [if_neg (fun e => h2 e.2), if_neg (fun e => h2 (by omega))]
  · rw [if_neg (fun e => ha e.1), if_neg (fun e => ha e.1), if_neg (fun e => ha e.1)]
theorem z_bk_ne {I : Nat → Nat → Int32} {p u k a : Nat} (h : a ≠ 113) : z_bk I p u k a = I a := by funext i; unfold z_bk; rw [if_neg (fun e => h e.1)]
theorem z_bkx {I : Nat → Nat → Int32} {p u : Nat} {y : Nat → Int32} (h : ∀ k, k < 26 → I p (u + k) = y k) : ∀ k, k < 26 → z_bk I p u 26 113 k = y k := fun k hk => by unfold z_bk; rw [if_pos ⟨rfl, hk⟩]; exact h k hk
def z_b26 : (26 : Int32) = nI 26 := rfl
theorem y_X11_undo_ok {n : Nat} {sl : Nat × Nat} {kd : Nat → Nat × Nat} {I : Nat → Nat → Int32} {L : Nat → Nat → Int64} {Rf : Nat → Nat → Option Nat} (d : Nat) {T : zT} {H : Nat} (hM : zM n kd I L Rf T) (hO : zOk H T) {un : List (Nat → Int32)} {y : Nat → Int32} (hTu : T.un = un ++ [y])  : zq mX11_undo (d + 20) [.ref 112] (n, sl, kd, I, L, Rf) (zpM n sl kd I L Rf (some (.int (s_undo T).1)) (s_undo T).2) := by
  intro f B
  refine ez_meth pn_X.2.2.2.2.2.2.2.2.2.2.2 (Nat.le_of_ble_eq_true rfl) ?_
  have hF := hM.F
  have hc7 := hO.c
  have hsp : s_undo T = (nI un.length, ((T.w_x (y)).w_un (un))) := (by unfold s_undo; rw [hTu]; simp)
  rw [hsp]
  have hun : I 112 22 = nI (un.length + 1) := by rw [hM.un.1, hTu]; simp
  have hul : un.length + 1 ≤ 12 := by have := hO.unl; rw [hTu] at this; simpa using this
  have hy : T.un[un.length]? = some y := by rw [hTu]; simp
  show ez_P _ _ _ _ _ _ 0 [(0, .ref 112)] [] (n, sl, kd, I, L, Rf) _
  refine ez_aload_n (i := 0) dX11_undo_0 rfl rfl ?_
  refine ez_iconst (v := 0) dX11_undo_1 (by decide) ?_
  refine ez_pI dX11_undo_2 plX11_89 (hF.lt (by decide)) (hF.lx (by decide)) (hF.kc (by decide) rfl) rfl rfl ?_
  refine ez_nmI (fun I1 hI1 => ?_)
  have hM1 : zM n kd I1 L Rf T := by rw [hI1]; exact hM.f9
  refine ez_aload_n (i := 0) dX11_undo_5 rfl rfl ?_
  refine ez_getI dX11_undo_6 flX11_154 (hF.lt (by decide)) (hF.kc (by decide) rfl) ?_
  refine ez_topE (y := I 112 22) (by rw [hI1, z_set_nk (by decide)]) ?_
  refine ez_topE (y := nI (un.length + 1)) hun ?_
  refine ez_if_ne (tgt := 14) dX11_undo_9 (by decide) (fun c2 => ?_) (fun c2 => absurd (fun e => absurd (nI_inj0 e (by omega)) (by omega)) c2)
  refine ez_aload_n (i := 0) dX11_undo_14 rfl rfl ?_
  refine ez_dup dX11_undo_15 rfl ?_
  refine ez_getI dX11_undo_16 flX11_154 (hF.lt (by decide)) (hF.kc (by decide) rfl) ?_
  refine ez_topE (y := I 112 22) (by rw [hI1, z_set_nk (by decide)]) ?_
  refine ez_topE (y := nI (un.length + 1)) hun ?_
  refine ez_iconst (v := 1) dX11_undo_19 (by decide) ?_
  refine ez_isub dX11_undo_20 ?_
  refine ez_topE (y := nI un.length) (by rw [show (1 : Int32) = nI 1 from rfl, pk_sub (by omega)]; rfl) ?_
  refine ez_pI dX11_undo_21 plX11_154 (hF.lt (by decide)) (hF.lx (by decide)) (hF.kc (by decide) rfl) rfl rfl ?_
  refine ez_nmI (fun I3 hI3 => ?_)
  refine ez_iconst (v := 0) dX11_undo_24 (by decide) ?_
  refine ez_istore_n (l' := [(1, .int 0), (0, .ref 112)]) dX11_undo_25 rfl (by decide) rfl ?_
  refine ez_eq (σ2 := (n, sl, kd, z_bk I3 122 (26 * un.length) 0, L, Rf)) rfl rfl rfl (by rw [z_bk0]) ?_
  refine ez_eq (l2 := [(1, .int (nI 0)), (0, .ref 112)]) (σ2 := (n, sl, kd, z_bk I3 122 (26 * un.length) 0, L, Rf)) rfl (by rw [nI_0]) rfl rfl ?_
  refine ez_for 26 (fun k (a : Unit) => ([(1, .int (nI k)), (0, .ref 112)], (n, sl, kd, z_bk I3 122 (26 * un.length) k, L, Rf))) (fun k a => True) ?_ ?_ 26 0 () (by omega) trivial
  · intro k a hk hinv ih
    show ez_P _ _ _ _ _ _ 26 [(1, .int (nI k)), (0, .ref 112)] [] (n, sl, kd, z_bk I3 122 (26 * un.length) k, L, Rf) _
    refine ez_iload_n (i := 1) dX11_undo_26 rfl rfl ?_
    refine ez_bipush (v := 26) dX11_undo_27 (by decide) ?_
    refine ez_icmp_ge (tgt := 58) dX11_undo_29 (by decide) (fun c4 => absurd c4 (by rw [z_b26]; exact nI_ge hk (by decide))) (fun c4 => ?_)
    refine ez_aload_n (i := 0) dX11_undo_32 rfl rfl ?_
    refine ez_getR dX11_undo_33 flX11_9 (hF.lt (by decide)) (hF.kc (by decide) rfl) (hF.pt 107 rfl) ?_
    refine ez_iload_n (i := 1) dX11_undo_36 rfl rfl ?_
    refine ez_aload_n (i := 0) dX11_undo_37 rfl rfl ?_
    refine ez_getR dX11_undo_38 flX11_43 (hF.lt (by decide)) (hF.kc (by decide) rfl) (hF.pt 115 rfl) ?_
    refine ez_bipush (v := 26) dX11_undo_41 (by decide) ?_
    refine ez_aload_n (i := 0) dX11_undo_43 rfl rfl ?_
    refine ez_getI dX11_undo_44 flX11_154 (hF.lt (by decide)) (hF.kc (by decide) rfl) ?_
    refine ez_topE (y := nI un.length) (by rw [z_bk_ne (by decide), hI3, z_set_at]) ?_
    refine ez_imul dX11_undo_47 ?_
    refine ez_topE (y := nI (26 * un.length)) (nI_mul _ _) ?_
    refine ez_iload_n (i := 1) dX11_undo_48 rfl rfl ?_
    refine ez_iadd dX11_undo_49 ?_
    refine ez_topE (y := nI ((26 * un.length) + k)) (nI_add _ _) ?_
    refine ez_iaN (k := ((26 * un.length) + k)) dX11_undo_50 (hF.lt (by decide)) (hF.ka (by decide) rfl) (by omega) (by decide) ?_
    refine ez_isN (k := k) dX11_undo_51 (hF.lt (by decide)) (hF.lx (by decide)) (hF.ka (by decide) rfl) (by omega) (by decide) ?_
    refine ez_nmI (fun I5 hI5 => ?_)
    refine ez_iinc (v := (nI (k + 1))) (l' := [(1, .int ((nI (k + 1)))), (0, .ref 112)]) dX11_undo_52 rfl (nI_1 _) (by decide) rfl ?_
    refine ez_goto (tgt := 26) dX11_undo_55 (by decide) ?_
    refine ez_eq (l2 := [(1, .int (nI (k + 1))), (0, .ref 112)]) (σ2 := (n, sl, kd, z_bk I3 122 (26 * un.length) (k + 1), L, Rf)) rfl rfl rfl (by subst_vars; rw [← z_bks (by decide)]) (ih () trivial)
  · intro a hinv
    show ez_P _ _ _ _ _ _ 26 [(1, .int (nI 26)), (0, .ref 112)] [] (n, sl, kd, z_bk I3 122 (26 * un.length) 26, L, Rf) _
    refine ez_nmI (fun I6 hI6 => ?_)
    refine ez_iload_n (i := 1) dX11_undo_26 rfl rfl ?_
    refine ez_bipush (v := 26) dX11_undo_27 (by decide) ?_
    refine ez_icmp_ge (tgt := 58) dX11_undo_29 (by decide) (fun c7 => ?_) (fun c7 => absurd (by decide) c7)
    refine ez_aload_n (i := 0) dX11_undo_58 rfl rfl ?_
    refine ez_getI dX11_undo_59 flX11_154 (hF.lt (by decide)) (hF.kc (by decide) rfl) ?_
    refine ez_topE (y := nI un.length) (by rw [hI6, z_bk_ne (by decide), hI3, z_set_at]) ?_
    refine ez_iret dX11_undo_62 rfl rfl ?_
    have hJ : ∀ c, c ≠ 112 → c ≠ 113 → I6 c = I c := fun c g112 g113 => by rw [hI6, z_bk_ne (by omega), hI3, z_set_ne (by omega), hI1, z_set_ne (by omega)]
    have hJf : ∀ k, k ≠ 9 → k ≠ 22 → I6 112 k = I 112 k := fun k g9 g22 => by rw [hI6, z_bk_ne (by decide), hI3, z_set_nk (by omega), hI1, z_set_nk (by omega)]
    exact ⟨rfl, _, _, _, rfl, ⟨hM.F, hM.ru, (by rw [(hJf 18 (by decide) (by decide)), (hJ 119 (by decide) (by decide))]; exact hM.rv), ⟨(hJf 6 (by decide) (by decide)).trans hM.tx.1, fun k hk => by rw [(hJ 116 (by decide) (by decide))]; exact hM.tx.2 k hk⟩, ⟨(hJf 8 (by decide) (by decide)).trans hM.rw.1, hM.rw.2⟩, (by rw [(hJ 114 (by decide) (by decide))]; exact hM.pr), ((hJf 4 (by decide) (by decide)).trans hM.wm), (by rw [(hJ 115 (by decide) (by decide))]; exact hM.wd), ((hJf 1 (by decide) (by decide)).trans hM.c), (by rw [hI6]; exact z_bkx (fun k hk => (by rw [hI3, z_set_ne (by decide), hI1, z_set_ne (by decide)]; exact hM.un.2 un.length y hy k hk))), ⟨(by rw [hI6, z_bk_ne (by decide), hI3, z_set_at]), fun j z hz k hk => (by rw [hJ 122 (by decide) (by decide)]; exact hM.un.2 j z (by rw [hTu]; rw [List.getElem?_append_left (z_lt_len hz)]; exact hz) k hk)⟩, (by rw [(hJf 38 (by decide) (by decide)), (hJ 134 (by decide) (by decide)), (hJ 135 (by decide) (by decide)), (hJ 136 (by decide) (by decide))]; exact hM.kp), (by rw [(hJf 30 (by decide) (by decide)), (hJ 126 (by decide) (by decide)), (hJ 127 (by decide) (by decide)), (hJ 128 (by decide) (by decide))]; exact hM.sn), (by rw [(hJf 34 (by decide) (by decide)), (hJ 130 (by decide) (by decide)), (hJ 131 (by decide) (by decide))]; exact hM.hd)⟩, (by rw [hI6, z_bk_ne (by decide), hI3, z_set_nk (by decide), hI1, z_set_at]), fun c hc => ⟨hJ c (by omega) (by omega), rfl, rfl⟩⟩
theorem y_X11_undo_no {n : Nat} {sl : Nat × Nat} {kd : Nat → Nat × Nat} {I : Nat → Nat → Int32} {L : Nat → Nat → Int64} {Rf : Nat → Nat → Option Nat} (d : Nat) {T : zT} {H : Nat} (hM : zM n kd I L Rf T) (hO : zOk H T) (hTu : T.un = [])  : zq mX11_undo (d + 20) [.ref 112] (n, sl, kd, I, L, Rf) (zpM n sl kd I L Rf (some (.int (s_undo T).1)) (s_undo T).2) := by
  intro f B
  refine ez_meth pn_X.2.2.2.2.2.2.2.2.2.2.2 (Nat.le_of_ble_eq_true rfl) ?_
  have hF := hM.F
  have hc7 := hO.c
  have hsp : s_undo T = (-1, T) := (by unfold s_undo; rw [hTu]; rfl)
  rw [hsp]
  show ez_P _ _ _ _ _ _ 0 [(0, .ref 112)] [] (n, sl, kd, I, L, Rf) _
  refine ez_aload_n (i := 0) dX11_undo_0 rfl rfl ?_
  refine ez_iconst (v := 0) dX11_undo_1 (by decide) ?_
  refine ez_pI dX11_undo_2 plX11_89 (hF.lt (by decide)) (hF.lx (by decide)) (hF.kc (by decide) rfl) rfl rfl ?_
  refine ez_nmI (fun I1 hI1 => ?_)
  have hM1 : zM n kd I1 L Rf T := by rw [hI1]; exact hM.f9
  refine ez_aload_n (i := 0) dX11_undo_5 rfl rfl ?_
  refine ez_getI dX11_undo_6 flX11_154 (hF.lt (by decide)) (hF.kc (by decide) rfl) ?_
  refine ez_topE (y := I 112 22) (by rw [hI1, z_set_nk (by decide)]) ?_
  refine ez_topE (y := nI 0) (by rw [hM.un.1, hTu]; rfl) ?_
  refine ez_if_ne (tgt := 14) dX11_undo_9 (by decide) (fun c2 => absurd c2 (fun g => g (by decide))) (fun c2 => ?_)
  refine ez_iconst (v := (-1)) dX11_undo_12 (by decide) ?_
  refine ez_iret dX11_undo_13 rfl rfl ?_
  have hJ : ∀ c, c ≠ 112 → I1 c = I c := fun c g112 => by rw [hI1, z_set_ne (by omega)]
  have hJf : ∀ k, k ≠ 9 → I1 112 k = I 112 k := fun k g9 => by rw [hI1, z_set_nk (by omega)]
  exact ⟨rfl, _, _, _, rfl, ⟨hM.F, hM.ru, (by rw [(hJf 18 (by decide)), (hJ 119 (by decide))]; exact hM.rv), ⟨(hJf 6 (by decide)).trans hM.tx.1, fun k hk => by rw [(hJ 116 (by decide))]; exact hM.tx.2 k hk⟩, ⟨(hJf 8 (by decide)).trans hM.rw.1, hM.rw.2⟩, (by rw [(hJ 114 (by decide))]; exact hM.pr), ((hJf 4 (by decide)).trans hM.wm), (by rw [(hJ 115 (by decide))]; exact hM.wd), ((hJf 1 (by decide)).trans hM.c), (by rw [(hJ 113 (by decide))]; exact hM.x), (by rw [(hJf 22 (by decide)), (hJ 122 (by decide))]; exact hM.un), (by rw [(hJf 38 (by decide)), (hJ 134 (by decide)), (hJ 135 (by decide)), (hJ 136 (by decide))]; exact hM.kp), (by rw [(hJf 30 (by decide)), (hJ 126 (by decide)), (hJ 127 (by decide)), (hJ 128 (by decide))]; exact hM.sn), (by rw [(hJf 34 (by decide)), (hJ 130 (by decide)), (hJ 131 (by decide))]; exact hM.hd)⟩, (by rw [hI1, z_set_at]), fun c hc => ⟨hJ c (by omega), rfl, rfl⟩⟩
theorem y_X11_undo {n : Nat} {sl : Nat × Nat} {kd : Nat → Nat × Nat} {I : Nat → Nat → Int32} {L : Nat → Nat → Int64} {Rf : Nat → Nat → Option Nat} (d : Nat) {T : zT} {H : Nat} (hM : zM n kd I L Rf T) (hO : zOk H T) : zq mX11_undo (d + 20) [.ref 112] (n, sl, kd, I, L, Rf) (zpM n sl kd I L Rf (some (.int (s_undo T).1)) (s_undo T).2) := by
  rcases List.eq_nil_or_concat T.un with h | ⟨un, y, h⟩
  · exact y_X11_undo_no d hM hO h
  · exact y_X11_undo_ok d hM hO (by simpa using h)
theorem y_X11_keep_ok {n : Nat} {sl : Nat × Nat} {kd : Nat → Nat × Nat} {I : Nat → Nat → Int32} {L : Nat → Nat → Int64} {Rf : Nat → Nat → Option Nat} (d : Nat) {T : zT} {H : Nat} (hM : zM n kd I L Rf T) (hO : zOk H T) {i0 : Nat} (hi : i0 < 2)  : zq mX11_keep (d + 20) [.ref 112, .int (nI i0)] (n, sl, kd, I, L, Rf) (zpM n sl kd I L Rf (some (.int (s_keep T (nI i0)).1)) (s_keep T (nI i0)).2) := by
  intro f B
  refine ez_meth pn_X.2.2.2.2.2.2.2.2.2.2.2 (Nat.le_of_ble_eq_true rfl) ?_
  have hF := hM.F
  have hc7 := hO.c
  have hsp : s_keep T (nI i0) = (1, (T.w_kp (fun q => if q = i0 then some T.x else T.kp q))) := (by unfold s_keep; rw [if_pos (by rcases (show i0 = 0 ∨ i0 = 1 by omega) with rfl | rfl <;> decide), nI_clamp (by omega)])
  rw [hsp]
  show ez_P _ _ _ _ _ _ 0 [(0, .ref 112), (1, .int (nI i0))] [] (n, sl, kd, I, L, Rf) _
  refine ez_aload_n (i := 0) dX11_keep_0 rfl rfl ?_
  refine ez_iconst (v := 0) dX11_keep_1 (by decide) ?_
  refine ez_pI dX11_keep_2 plX11_89 (hF.lt (by decide)) (hF.lx (by decide)) (hF.kc (by decide) rfl) rfl rfl ?_
  refine ez_nmI (fun I1 hI1 => ?_)
  have hM1 : zM n kd I1 L Rf T := by rw [hI1]; exact hM.f9
  refine ez_iload_n (i := 1) dX11_keep_5 rfl rfl ?_
  refine ez_iconst (v := 0) dX11_keep_6 (by decide) ?_
  refine ez_iconst (v := 1) dX11_keep_7 (by decide) ?_
  refine ez_callS (M1 := mX11_in) (rest := []) dX11_keep_8 mlX11_98 msX11_in rfl (Nat.le_of_ble_eq_true rfl) rfl (zq_b1 (by rcases (show i0 = 0 ∨ i0 = 1 by omega) with rfl | rfl <;> decide) (zq_b (q_X11_in (d + 19) (nI i0) 0 1) (n, sl, kd, I1, L, Rf))) eb_rok ?_
  rintro _ _ ⟨rfl, rfl⟩
  show ez_P _ _ _ _ _ _ 11 [(0, .ref 112), (1, .int (nI i0))] (.int 1 :: []) _ _
  refine ez_if_ne (tgt := 16) dX11_keep_11 (by decide) (fun c2 => ?_) (fun c2 => absurd (by decide) c2)
  refine ez_aload_n (i := 0) dX11_keep_16 rfl rfl ?_
  refine ez_getR dX11_keep_17 flX11_83 (hF.lt (by decide)) (hF.kc (by decide) rfl) (hF.pt 128 rfl) ?_
  refine ez_iload_n (i := 1) dX11_keep_20 rfl rfl ?_
  refine ez_iconst (v := 1) dX11_keep_21 (by decide) ?_
  refine ez_zsN (k := i0) dX11_keep_22 (hF.lt (by decide)) (hF.lx (by decide)) (hF.ka (by decide) rfl) (by omega) (by decide) ?_
  refine ez_nmI (fun I3 hI3 => ?_)
  refine ez_aload_n (i := 0) dX11_keep_23 rfl rfl ?_
  refine ez_getR dX11_keep_24 flX11_86 (hF.lt (by decide)) (hF.kc (by decide) rfl) (hF.pt 129 rfl) ?_
  refine ez_iload_n (i := 1) dX11_keep_27 rfl rfl ?_
  refine ez_aload_n (i := 0) dX11_keep_28 rfl rfl ?_
  refine ez_getI dX11_keep_29 flX11_157 (hF.lt (by decide)) (hF.kc (by decide) rfl) ?_
  refine ez_topE (y := I 112 38) (by rw [hI3, z_set_ne (by decide), hI1, z_set_nk (by decide)]) ?_
  refine ez_isN (k := i0) dX11_keep_32 (hF.lt (by decide)) (hF.lx (by decide)) (hF.ka (by decide) rfl) (by omega) (by decide) ?_
  refine ez_nmI (fun I4 hI4 => ?_)
  refine ez_aload_n (i := 0) dX11_keep_33 rfl rfl ?_
  refine ez_getR dX11_keep_34 flX11_9 (hF.lt (by decide)) (hF.kc (by decide) rfl) (hF.pt 107 rfl) ?_
  refine ez_aload_n (i := 0) dX11_keep_37 rfl rfl ?_
  refine ez_getR dX11_keep_38 flX11_80 (hF.lt (by decide)) (hF.kc (by decide) rfl) (hF.pt 127 rfl) ?_
  refine ez_bipush (v := 26) dX11_keep_41 (by decide) ?_
  refine ez_iload_n (i := 1) dX11_keep_43 rfl rfl ?_
  refine ez_imul dX11_keep_44 ?_
  refine ez_topE (y := nI (26 * i0)) (nI_mul _ _) ?_
  refine ez_callS (M1 := mX11_lay) (rest := []) dX11_keep_45 mlX11_231 msX11_lay rfl (Nat.le_of_ble_eq_true rfl) rfl (y_X11_lay (I := I4) (p := 113) (q := 134) (u := 26 * i0) (m := 52) (d + 19) hF ⟨hF.lt (by omega), hF.ka (by decide) rfl⟩ ⟨hF.lt (by decide), hF.ka (by decide) rfl, by decide⟩ (by omega) (by omega) (by omega)) (eb_vok rfl) ?_
  rintro _ _ ⟨rfl, rfl⟩
  show ez_P _ _ _ _ _ _ 48 [(0, .ref 112), (1, .int (nI i0))] [] (n, sl, kd, z_l26 I4 113 134 (26 * i0) 26, L, Rf) _
  refine ez_nmI (fun I5 hI5 => ?_)
  refine ez_iconst (v := 1) dX11_keep_48 (by decide) ?_
  refine ez_iret dX11_keep_49 rfl (by decide) ?_
  have hJ : ∀ c, c ≠ 112 → c ≠ 134 → c ≠ 135 → c ≠ 136 → I5 c = I c := fun c g112 g134 g135 g136 => by rw [hI5, z_l26_ne (by omega), hI4, z_set_ne (by omega), hI3, z_set_ne (by omega), hI1, z_set_ne (by omega)]
  have hJf : ∀ k, k ≠ 9 → I5 112 k = I 112 k := fun k g9 => by rw [hI5, z_l26_ne (by decide), hI4, z_set_ne (by decide), hI3, z_set_ne (by decide), hI1, z_set_nk (by omega)]
  exact ⟨rfl, _, _, _, rfl, ⟨hM.F, hM.ru, (by rw [(hJf 18 (by decide)), (hJ 119 (by decide) (by decide) (by decide) (by decide))]; exact hM.rv), ⟨(hJf 6 (by decide)).trans hM.tx.1, fun k hk => by rw [(hJ 116 (by decide) (by decide) (by decide) (by decide))]; exact hM.tx.2 k hk⟩, ⟨(hJf 8 (by decide)).trans hM.rw.1, hM.rw.2⟩, (by rw [(hJ 114 (by decide) (by decide) (by decide) (by decide))]; exact hM.pr), ((hJf 4 (by decide)).trans hM.wm), (by rw [(hJ 115 (by decide) (by decide) (by decide) (by decide))]; exact hM.wd), ((hJf 1 (by decide)).trans hM.c), (by rw [(hJ 113 (by decide) (by decide) (by decide) (by decide))]; exact hM.x), (by rw [(hJf 22 (by decide)), (hJ 122 (by decide) (by decide) (by decide) (by decide))]; exact hM.un), (by
      obtain ⟨cm, h1, h2, h3, h4⟩ := hM.kp
      refine ⟨cm, h1, h2, (hJf 38 (by decide)).trans h3, fun q hq => ?_⟩
      have e135 : I5 135 = z_set I 135 i0 1 135 := by rw [hI5, z_l26_ne (by decide), hI4, z_set_ne (by decide), hI3]; funext z; simp only [z_set]; rw [hI1, z_set_ne (by decide)]; rfl
      have e136 : I5 136 = z_set I 136 i0 (nI cm) 136 := by rw [hI5, z_l26_ne (by decide), hI4]; funext z; simp only [z_set]; rw [hI3, z_set_ne (by decide), hI1, z_set_ne (by decide), h3]
      have e134 : ∀ z, I5 134 z = if 26 * i0 ≤ z ∧ z < 26 * i0 + 26 then T.x (z - 26 * i0) else I 134 z := fun z => by
        rw [hI5]; unfold z_l26
        by_cases e : 26 * i0 ≤ z ∧ z < 26 * i0 + 26
        · rw [if_pos ⟨rfl, e.1, e.2⟩, if_pos e, hI4, z_set_ne (by decide), hI3, z_set_ne (by decide), hI1, z_set_ne (by decide)]; exact hM.x _ (by omega)
        · rw [if_neg (fun g => e ⟨g.2.1, g.2.2⟩), if_neg e, hI4, z_set_ne (by decide), hI3, z_set_ne (by decide), hI1, z_set_ne (by decide)]
      rw [e135, e136]
      by_cases hq0 : q = i0
      · subst hq0
        rw [show (((T.w_kp (fun z => if z = q then some T.x else T.kp z)) : zT).kp q) = some T.x from if_pos rfl]
        refine ⟨z_set_at, z_set_at, fun k hk => ?_⟩
        rw [e134, if_pos (by omega)]; congr 1; omega
      · rw [show (((T.w_kp (fun z => if z = i0 then some T.x else T.kp z)) : zT).kp q) = T.kp q from if_neg hq0]
        rw [z_set_nk hq0, z_set_nk hq0]
        have := h4 q hq
        cases e : T.kp q with
        | none => rw [e] at this; exact this
        | some y =>
          rw [e] at this
          refine ⟨this.1, this.2.1, fun k hk => ?_⟩
          rw [e134, if_neg (by omega)]; exact this.2.2 k hk), (by rw [(hJf 30 (by decide)), (hJ 126 (by decide) (by decide) (by decide) (by decide)), (hJ 127 (by decide) (by decide) (by decide) (by decide)), (hJ 128 (by decide) (by decide) (by decide) (by decide))]; exact hM.sn), (by rw [(hJf 34 (by decide)), (hJ 130 (by decide) (by decide) (by decide) (by decide)), (hJ 131 (by decide) (by decide) (by decide) (by decide))]; exact hM.hd)⟩, (by rw [hI5, z_l26_ne (by decide), hI4, z_set_ne (by decide), hI3, z_set_ne (by decide), hI1, z_set_at]), fun c hc => ⟨hJ c (by omega) (by omega) (by omega) (by omega), rfl, rfl⟩⟩
theorem y_X11_keep_no {n : Nat} {sl : Nat × Nat} {kd : Nat → Nat × Nat} {I : Nat → Nat → Int32} {L : Nat → Nat → Int64} {Rf : Nat → Nat → Option Nat} (d : Nat) {T : zT} {H : Nat} (hM : zM n kd I L Rf T) (hO : zOk H T) {i : Int32} (hi : ¬ (0 ≤ i ∧ i ≤ 1))  : zq mX11_keep (d + 20) [.ref 112, .int i] (n, sl, kd, I, L, Rf) (zpM n sl kd I L Rf (some (.int (s_keep T i).1)) (s_keep T i).2) := by
  intro f B
  refine ez_meth pn_X.2.2.2.2.2.2.2.2.2.2.2 (Nat.le_of_ble_eq_true rfl) ?_
  have hF := hM.F
  have hc7 := hO.c
  have hsp : s_keep T i = (0, T) := (by unfold s_keep; rw [if_neg hi])
  rw [hsp]
  show ez_P _ _ _ _ _ _ 0 [(0, .ref 112), (1, .int i)] [] (n, sl, kd, I, L, Rf) _
  refine ez_aload_n (i := 0) dX11_keep_0 rfl rfl ?_
  refine ez_iconst (v := 0) dX11_keep_1 (by decide) ?_
  refine ez_pI dX11_keep_2 plX11_89 (hF.lt (by decide)) (hF.lx (by decide)) (hF.kc (by decide) rfl) rfl rfl ?_
  refine ez_nmI (fun I1 hI1 => ?_)
  have hM1 : zM n kd I1 L Rf T := by rw [hI1]; exact hM.f9
  refine ez_iload_n (i := 1) dX11_keep_5 rfl rfl ?_
  refine ez_iconst (v := 0) dX11_keep_6 (by decide) ?_
  refine ez_iconst (v := 1) dX11_keep_7 (by decide) ?_
  refine ez_callS (M1 := mX11_in) (rest := []) dX11_keep_8 mlX11_98 msX11_in rfl (Nat.le_of_ble_eq_true rfl) rfl (zq_b0 hi (zq_b (q_X11_in (d + 19) i 0 1) (n, sl, kd, I1, L, Rf))) eb_rok ?_
  rintro _ _ ⟨rfl, rfl⟩
  show ez_P _ _ _ _ _ _ 11 [(0, .ref 112), (1, .int i)] (.int 0 :: []) _ _
  refine ez_if_ne (tgt := 16) dX11_keep_11 (by decide) (fun c2 => absurd c2 (by decide)) (fun c2 => ?_)
  refine ez_iconst (v := 0) dX11_keep_14 (by decide) ?_
  refine ez_iret dX11_keep_15 rfl (by decide) ?_
  have hJ : ∀ c, c ≠ 112 → I1 c = I c := fun c g112 => by rw [hI1, z_set_ne (by omega)]
  have hJf : ∀ k, k ≠ 9 → I1 112 k = I 112 k := fun k g9 => by rw [hI1, z_set_nk (by omega)]
  exact ⟨rfl, _, _, _, rfl, ⟨hM.F, hM.ru, (by rw [(hJf 18 (by decide)), (hJ 119 (by decide))]; exact hM.rv), ⟨(hJf 6 (by decide)).trans hM.tx.1, fun k hk => by rw [(hJ 116 (by decide))]; exact hM.tx.2 k hk⟩, ⟨(hJf 8 (by decide)).trans hM.rw.1, hM.rw.2⟩, (by rw [(hJ 114 (by decide))]; exact hM.pr), ((hJf 4 (by decide)).trans hM.wm), (by rw [(hJ 115 (by decide))]; exact hM.wd), ((hJf 1 (by decide)).trans hM.c), (by rw [(hJ 113 (by decide))]; exact hM.x), (by rw [(hJf 22 (by decide)), (hJ 122 (by decide))]; exact hM.un), (by rw [(hJf 38 (by decide)), (hJ 134 (by decide)), (hJ 135 (by decide)), (hJ 136 (by decide))]; exact hM.kp), (by rw [(hJf 30 (by decide)), (hJ 126 (by decide)), (hJ 127 (by decide)), (hJ 128 (by decide))]; exact hM.sn), (by rw [(hJf 34 (by decide)), (hJ 130 (by decide)), (hJ 131 (by decide))]; exact hM.hd)⟩, (by rw [hI1, z_set_at]), fun c hc => ⟨hJ c (by omega), rfl, rfl⟩⟩
theorem y_X11_again_ok {n : Nat} {sl : Nat × Nat} {kd : Nat → Nat × Nat} {I : Nat → Nat → Int32} {L : Nat → Nat → Int64} {Rf : Nat → Nat → Option Nat} (d : Nat) {T : zT} {H : Nat} (hM : zM n kd I L Rf T) (hO : zOk H T) {i0 : Nat} (hi : i0 < 2) {y : Nat → Int32} (hy : T.kp i0 = some y)  : zq mX11_again (d + 20) [.ref 112, .int (nI i0)] (n, sl, kd, I, L, Rf) (zpM n sl kd I L Rf (some (.int (s_again T (nI i0)).1)) (s_again T (nI i0)).2) := by
  intro f B
  refine ez_meth pn_X.2.2.2.2.2.2.2.2.2.2.2 (Nat.le_of_ble_eq_true rfl) ?_
  have hF := hM.F
  have hc7 := hO.c
  have hsp : s_again T (nI i0) = (1, ((T.w_x (y)).w_un ([]))) := (by unfold s_again; rw [if_pos (by rcases (show i0 = 0 ∨ i0 = 1 by omega) with rfl | rfl <;> decide), nI_clamp (by omega), hy])
  rw [hsp]
  obtain ⟨cm, hcm1, hcm2, hcm, hk0⟩ := hM.kp
  have hk0 := hk0 i0 hi
  rw [hy] at hk0
  obtain ⟨hk1, hk2, hk3⟩ := hk0
  show ez_P _ _ _ _ _ _ 0 [(0, .ref 112), (1, .int (nI i0))] [] (n, sl, kd, I, L, Rf) _
  refine ez_aload_n (i := 0) dX11_again_0 rfl rfl ?_
  refine ez_iconst (v := 0) dX11_again_1 (by decide) ?_
  refine ez_pI dX11_again_2 plX11_89 (hF.lt (by decide)) (hF.lx (by decide)) (hF.kc (by decide) rfl) rfl rfl ?_
  refine ez_nmI (fun I1 hI1 => ?_)
  have hM1 : zM n kd I1 L Rf T := by rw [hI1]; exact hM.f9
  refine ez_iload_n (i := 1) dX11_again_5 rfl rfl ?_
  refine ez_iconst (v := 0) dX11_again_6 (by decide) ?_
  refine ez_iconst (v := 1) dX11_again_7 (by decide) ?_
  refine ez_callS (M1 := mX11_in) (rest := []) dX11_again_8 mlX11_98 msX11_in rfl (Nat.le_of_ble_eq_true rfl) rfl (zq_b1 (by rcases (show i0 = 0 ∨ i0 = 1 by omega) with rfl | rfl <;> decide) (zq_b (q_X11_in (d + 19) (nI i0) 0 1) (n, sl, kd, I1, L, Rf))) eb_rok ?_
  rintro _ _ ⟨rfl, rfl⟩
  show ez_P _ _ _ _ _ _ 11 [(0, .ref 112), (1, .int (nI i0))] (.int 1 :: []) _ _
  refine ez_if_eq (tgt := 36) dX11_again_11 (by decide) (fun c2 => absurd c2 (by decide)) (fun c2 => ?_)
  refine ez_aload_n (i := 0) dX11_again_14 rfl rfl ?_
  refine ez_getR dX11_again_15 flX11_83 (hF.lt (by decide)) (hF.kc (by decide) rfl) (hF.pt 128 rfl) ?_
  refine ez_iload_n (i := 1) dX11_again_18 rfl rfl ?_
  refine ez_zaN (k := i0) dX11_again_19 (hF.lt (by decide)) (hF.ka (by decide) rfl) (by omega) (by decide) ?_
  refine ez_topE (y := I 135 i0) (by rw [hI1, z_set_ne (by decide)]) ?_
  refine ez_topE (y := 1) hk1 ?_
  refine ez_if_eq (tgt := 36) dX11_again_20 (by decide) (fun c3 => absurd c3 (by decide)) (fun c3 => ?_)
  refine ez_aload_n (i := 0) dX11_again_23 rfl rfl ?_
  refine ez_getR dX11_again_24 flX11_86 (hF.lt (by decide)) (hF.kc (by decide) rfl) (hF.pt 129 rfl) ?_
  refine ez_iload_n (i := 1) dX11_again_27 rfl rfl ?_
  refine ez_iaN (k := i0) dX11_again_28 (hF.lt (by decide)) (hF.ka (by decide) rfl) (by omega) (by decide) ?_
  refine ez_topE (y := I 136 i0) (by rw [hI1, z_set_ne (by decide)]) ?_
  refine ez_topE (y := nI cm) hk2 ?_
  refine ez_aload_n (i := 0) dX11_again_29 rfl rfl ?_
  refine ez_getI dX11_again_30 flX11_157 (hF.lt (by decide)) (hF.kc (by decide) rfl) ?_
  refine ez_topE (y := I 112 38) (by rw [hI1, z_set_nk (by decide)]) ?_
  refine ez_topE (y := nI cm) hcm ?_
  refine ez_icmp_eq (tgt := 38) dX11_again_33 (by decide) (fun c4 => ?_) (fun c4 => absurd rfl c4)
  refine ez_iconst (v := 0) dX11_again_38 (by decide) ?_
  refine ez_istore_n (l' := [(2, .int 0), (0, .ref 112), (1, .int (nI i0))]) dX11_again_39 rfl (by decide) rfl ?_
  refine ez_eq (σ2 := (n, sl, kd, z_bk I1 134 (26 * i0) 0, L, Rf)) rfl rfl rfl (by rw [z_bk0]) ?_
  refine ez_eq (l2 := [(2, .int (nI 0)), (0, .ref 112), (1, .int (nI i0))]) (σ2 := (n, sl, kd, z_bk I1 134 (26 * i0) 0, L, Rf)) rfl (by rw [nI_0]) rfl rfl ?_
  refine ez_for 26 (fun k (a : Unit) => ([(2, .int (nI k)), (0, .ref 112), (1, .int (nI i0))], (n, sl, kd, z_bk I1 134 (26 * i0) k, L, Rf))) (fun k a => True) ?_ ?_ 26 0 () (by omega) trivial
  · intro k a hk hinv ih
    show ez_P _ _ _ _ _ _ 40 [(2, .int (nI k)), (0, .ref 112), (1, .int (nI i0))] [] (n, sl, kd, z_bk I1 134 (26 * i0) k, L, Rf) _
    refine ez_iload_n (i := 2) dX11_again_40 rfl rfl ?_
    refine ez_bipush (v := 26) dX11_again_41 (by decide) ?_
    refine ez_icmp_ge (tgt := 69) dX11_again_43 (by decide) (fun c5 => absurd c5 (by rw [z_b26]; exact nI_ge hk (by decide))) (fun c5 => ?_)
    refine ez_aload_n (i := 0) dX11_again_46 rfl rfl ?_
    refine ez_getR dX11_again_47 flX11_9 (hF.lt (by decide)) (hF.kc (by decide) rfl) (hF.pt 107 rfl) ?_
    refine ez_iload_n (i := 2) dX11_again_50 rfl rfl ?_
    refine ez_aload_n (i := 0) dX11_again_51 rfl rfl ?_
    refine ez_getR dX11_again_52 flX11_80 (hF.lt (by decide)) (hF.kc (by decide) rfl) (hF.pt 127 rfl) ?_
    refine ez_bipush (v := 26) dX11_again_55 (by decide) ?_
    refine ez_iload_n (i := 1) dX11_again_57 rfl rfl ?_
    refine ez_imul dX11_again_58 ?_
    refine ez_topE (y := nI (26 * i0)) (nI_mul _ _) ?_
    refine ez_iload_n (i := 2) dX11_again_59 rfl rfl ?_
    refine ez_iadd dX11_again_60 ?_
    refine ez_topE (y := nI ((26 * i0) + k)) (nI_add _ _) ?_
    refine ez_iaN (k := ((26 * i0) + k)) dX11_again_61 (hF.lt (by decide)) (hF.ka (by decide) rfl) (by omega) (by decide) ?_
    refine ez_isN (k := k) dX11_again_62 (hF.lt (by decide)) (hF.lx (by decide)) (hF.ka (by decide) rfl) (by omega) (by decide) ?_
    refine ez_nmI (fun I6 hI6 => ?_)
    refine ez_iinc (v := (nI (k + 1))) (l' := [(2, .int ((nI (k + 1)))), (0, .ref 112), (1, .int (nI i0))]) dX11_again_63 rfl (nI_1 _) (by decide) rfl ?_
    refine ez_goto (tgt := 40) dX11_again_66 (by decide) ?_
    refine ez_eq (l2 := [(2, .int (nI (k + 1))), (0, .ref 112), (1, .int (nI i0))]) (σ2 := (n, sl, kd, z_bk I1 134 (26 * i0) (k + 1), L, Rf)) rfl rfl rfl (by subst_vars; rw [← z_bks (by decide)]) (ih () trivial)
  · intro a hinv
    show ez_P _ _ _ _ _ _ 40 [(2, .int (nI 26)), (0, .ref 112), (1, .int (nI i0))] [] (n, sl, kd, z_bk I1 134 (26 * i0) 26, L, Rf) _
    refine ez_nmI (fun I7 hI7 => ?_)
    refine ez_iload_n (i := 2) dX11_again_40 rfl rfl ?_
    refine ez_bipush (v := 26) dX11_again_41 (by decide) ?_
    refine ez_icmp_ge (tgt := 69) dX11_again_43 (by decide) (fun c8 => ?_) (fun c8 => absurd (by decide) c8)
    refine ez_aload_n (i := 0) dX11_again_69 rfl rfl ?_
    refine ez_iconst (v := 0) dX11_again_70 (by decide) ?_
    refine ez_pI dX11_again_71 plX11_154 (hF.lt (by decide)) (hF.lx (by decide)) (hF.kc (by decide) rfl) rfl rfl ?_
    refine ez_nmI (fun I9 hI9 => ?_)
    refine ez_iconst (v := 1) dX11_again_74 (by decide) ?_
    refine ez_iret dX11_again_75 rfl (by decide) ?_
    have hJ : ∀ c, c ≠ 112 → c ≠ 113 → I9 c = I c := fun c g112 g113 => by rw [hI9, z_set_ne (by omega), hI7, z_bk_ne (by omega), hI1, z_set_ne (by omega)]
    have hJf : ∀ k, k ≠ 9 → k ≠ 22 → I9 112 k = I 112 k := fun k g9 g22 => by rw [hI9, z_set_nk (by omega), hI7, z_bk_ne (by decide), hI1, z_set_nk (by omega)]
    exact ⟨rfl, _, _, _, rfl, ⟨hM.F, hM.ru, (by rw [(hJf 18 (by decide) (by decide)), (hJ 119 (by decide) (by decide))]; exact hM.rv), ⟨(hJf 6 (by decide) (by decide)).trans hM.tx.1, fun k hk => by rw [(hJ 116 (by decide) (by decide))]; exact hM.tx.2 k hk⟩, ⟨(hJf 8 (by decide) (by decide)).trans hM.rw.1, hM.rw.2⟩, (by rw [(hJ 114 (by decide) (by decide))]; exact hM.pr), ((hJf 4 (by decide) (by decide)).trans hM.wm), (by rw [(hJ 115 (by decide) (by decide))]; exact hM.wd), ((hJf 1 (by decide) (by decide)).trans hM.c), (by rw [hI9, z_set_ne (by decide), hI7]; exact z_bkx (fun k hk => (by rw [hI1, z_set_ne (by decide)]; exact hk3 k hk))), ⟨(by rw [hI9, z_set_at]; rfl), fun j z hz => (by cases hz)⟩, (by rw [(hJf 38 (by decide) (by decide)), (hJ 134 (by decide) (by decide)), (hJ 135 (by decide) (by decide)), (hJ 136 (by decide) (by decide))]; exact hM.kp), (by rw [(hJf 30 (by decide) (by decide)), (hJ 126 (by decide) (by decide)), (hJ 127 (by decide) (by decide)), (hJ 128 (by decide) (by decide))]; exact hM.sn), (by rw [(hJf 34 (by decide) (by decide)), (hJ 130 (by decide) (by decide)), (hJ 131 (by decide) (by decide))]; exact hM.hd)⟩, (by rw [hI9, z_set_nk (by decide), hI7, z_bk_ne (by decide), hI1, z_set_at]), fun c hc => ⟨hJ c (by omega) (by omega), rfl, rfl⟩⟩
theorem y_X11_again_none {n : Nat} {sl : Nat × Nat} {kd : Nat → Nat × Nat} {I : Nat → Nat → Int32} {L : Nat → Nat → Int64} {Rf : Nat → Nat → Option Nat} (d : Nat) {T : zT} {H : Nat} (hM : zM n kd I L Rf T) (hO : zOk H T) {i0 : Nat} (hi : i0 < 2) (hy : T.kp i0 = none)  : zq mX11_again (d + 20) [.ref 112, .int (nI i0)] (n, sl, kd, I, L, Rf) (zpM n sl kd I L Rf (some (.int (s_again T (nI i0)).1)) (s_again T (nI i0)).2) := by
  intro f B
  refine ez_meth pn_X.2.2.2.2.2.2.2.2.2.2.2 (Nat.le_of_ble_eq_true rfl) ?_
  have hF := hM.F
  have hc7 := hO.c
  have hsp : s_again T (nI i0) = (0, T) := (by unfold s_again; rw [if_pos (by rcases (show i0 = 0 ∨ i0 = 1 by omega) with rfl | rfl <;> decide), nI_clamp (by omega), hy])
  rw [hsp]
  obtain ⟨cm, hcm1, hcm2, hcm, hk0⟩ := hM.kp
  have hk0 := hk0 i0 hi
  rw [hy] at hk0
  have hk1 : I 135 i0 = 0 ∨ ¬ I 135 i0 = 0 ∧ ¬ I 136 i0 = nI cm := hk0.elim Or.inl (fun h => Or.inr ⟨by rw [h.1]; decide, by obtain ⟨q, hq, e⟩ := h.2; rw [e]; exact fun g => absurd (z_nIinj g (by omega) (by omega)) (by omega)⟩)
  show ez_P _ _ _ _ _ _ 0 [(0, .ref 112), (1, .int (nI i0))] [] (n, sl, kd, I, L, Rf) _
  refine ez_aload_n (i := 0) dX11_again_0 rfl rfl ?_
  refine ez_iconst (v := 0) dX11_again_1 (by decide) ?_
  refine ez_pI dX11_again_2 plX11_89 (hF.lt (by decide)) (hF.lx (by decide)) (hF.kc (by decide) rfl) rfl rfl ?_
  refine ez_nmI (fun I1 hI1 => ?_)
  have hM1 : zM n kd I1 L Rf T := by rw [hI1]; exact hM.f9
  refine ez_iload_n (i := 1) dX11_again_5 rfl rfl ?_
  refine ez_iconst (v := 0) dX11_again_6 (by decide) ?_
  refine ez_iconst (v := 1) dX11_again_7 (by decide) ?_
  refine ez_callS (M1 := mX11_in) (rest := []) dX11_again_8 mlX11_98 msX11_in rfl (Nat.le_of_ble_eq_true rfl) rfl (zq_b1 (by rcases (show i0 = 0 ∨ i0 = 1 by omega) with rfl | rfl <;> decide) (zq_b (q_X11_in (d + 19) (nI i0) 0 1) (n, sl, kd, I1, L, Rf))) eb_rok ?_
  rintro _ _ ⟨rfl, rfl⟩
  show ez_P _ _ _ _ _ _ 11 [(0, .ref 112), (1, .int (nI i0))] (.int 1 :: []) _ _
  refine ez_if_eq (tgt := 36) dX11_again_11 (by decide) (fun c2 => absurd c2 (by decide)) (fun c2 => ?_)
  refine ez_aload_n (i := 0) dX11_again_14 rfl rfl ?_
  refine ez_getR dX11_again_15 flX11_83 (hF.lt (by decide)) (hF.kc (by decide) rfl) (hF.pt 128 rfl) ?_
  refine ez_iload_n (i := 1) dX11_again_18 rfl rfl ?_
  refine ez_zaN (k := i0) dX11_again_19 (hF.lt (by decide)) (hF.ka (by decide) rfl) (by omega) (by decide) ?_
  refine ez_topE (y := I 135 i0) (by rw [hI1, z_set_ne (by decide)]) ?_
  refine ez_if_eq (tgt := 36) dX11_again_20 (by decide) (fun c3 => ?_) (fun c3 => ?_)
  · skip
    refine ez_iconst (v := 0) dX11_again_36 (by decide) ?_
    refine ez_iret dX11_again_37 rfl (by decide) ?_
    have hJ : ∀ c, c ≠ 112 → I1 c = I c := fun c g112 => by rw [hI1, z_set_ne (by omega)]
    have hJf : ∀ k, k ≠ 9 → I1 112 k = I 112 k := fun k g9 => by rw [hI1, z_set_nk (by omega)]
    exact ⟨rfl, _, _, _, rfl, ⟨hM.F, hM.ru, (by rw [(hJf 18 (by decide)), (hJ 119 (by decide))]; exact hM.rv), ⟨(hJf 6 (by decide)).trans hM.tx.1, fun k hk => by rw [(hJ 116 (by decide))]; exact hM.tx.2 k hk⟩, ⟨(hJf 8 (by decide)).trans hM.rw.1, hM.rw.2⟩, (by rw [(hJ 114 (by decide))]; exact hM.pr), ((hJf 4 (by decide)).trans hM.wm), (by rw [(hJ 115 (by decide))]; exact hM.wd), ((hJf 1 (by decide)).trans hM.c), (by rw [(hJ 113 (by decide))]; exact hM.x), (by rw [(hJf 22 (by decide)), (hJ 122 (by decide))]; exact hM.un), (by rw [(hJf 38 (by decide)), (hJ 134 (by decide)), (hJ 135 (by decide)), (hJ 136 (by decide))]; exact hM.kp), (by rw [(hJf 30 (by decide)), (hJ 126 (by decide)), (hJ 127 (by decide)), (hJ 128 (by decide))]; exact hM.sn), (by rw [(hJf 34 (by decide)), (hJ 130 (by decide)), (hJ 131 (by decide))]; exact hM.hd)⟩, (by rw [hI1, z_set_at]), fun c hc => ⟨hJ c (by omega), rfl, rfl⟩⟩
  · skip
    refine ez_aload_n (i := 0) dX11_again_23 rfl rfl ?_
    refine ez_getR dX11_again_24 flX11_86 (hF.lt (by decide)) (hF.kc (by decide) rfl) (hF.pt 129 rfl) ?_
    refine ez_iload_n (i := 1) dX11_again_27 rfl rfl ?_
    refine ez_iaN (k := i0) dX11_again_28 (hF.lt (by decide)) (hF.ka (by decide) rfl) (by omega) (by decide) ?_
    refine ez_topE (y := I 136 i0) (by rw [hI1, z_set_ne (by decide)]) ?_
    refine ez_aload_n (i := 0) dX11_again_29 rfl rfl ?_
    refine ez_getI dX11_again_30 flX11_157 (hF.lt (by decide)) (hF.kc (by decide) rfl) ?_
    refine ez_topE (y := I 112 38) (by rw [hI1, z_set_nk (by decide)]) ?_
    refine ez_topE (y := nI cm) hcm ?_
    refine ez_icmp_eq (tgt := 38) dX11_again_33 (by decide) (fun c4 => absurd c4 (hk1.elim (fun e => absurd e (by assumption)) (fun e => e.2))) (fun c4 => ?_)
    refine ez_iconst (v := 0) dX11_again_36 (by decide) ?_
    refine ez_iret dX11_again_37 rfl (by decide) ?_
    have hJ : ∀ c, c ≠ 112 → I1 c = I c := fun c g112 => by rw [hI1, z_set_ne (by omega)]
    have hJf : ∀ k, k ≠ 9 → I1 112 k = I 112 k := fun k g9 => by rw [hI1, z_set_nk (by omega)]
    exact ⟨rfl, _, _, _, rfl, ⟨hM.F, hM.ru, (by rw [(hJf 18 (by decide)), (hJ 119 (by decide))]; exact hM.rv), ⟨(hJf 6 (by decide)).trans hM.tx.1, fun k hk => by rw [(hJ 116 (by decide))]; exact hM.tx.2 k hk⟩, ⟨(hJf 8 (by decide)).trans hM.rw.1, hM.rw.2⟩, (by rw [(hJ 114 (by decide))]; exact hM.pr), ((hJf 4 (by decide)).trans hM.wm), (by rw [(hJ 115 (by decide))]; exact hM.wd), ((hJf 1 (by decide)).trans hM.c), (by rw [(hJ 113 (by decide))]; exact hM.x), (by rw [(hJf 22 (by decide)), (hJ 122 (by decide))]; exact hM.un), (by rw [(hJf 38 (by decide)), (hJ 134 (by decide)), (hJ 135 (by decide)), (hJ 136 (by decide))]; exact hM.kp), (by rw [(hJf 30 (by decide)), (hJ 126 (by decide)), (hJ 127 (by decide)), (hJ 128 (by decide))]; exact hM.sn), (by rw [(hJf 34 (by decide)), (hJ 130 (by decide)), (hJ 131 (by decide))]; exact hM.hd)⟩, (by rw [hI1, z_set_at]), fun c hc => ⟨hJ c (by omega), rfl, rfl⟩⟩
theorem y_X11_again_no {n : Nat} {sl : Nat × Nat} {kd : Nat → Nat × Nat} {I : Nat → Nat → Int32} {L : Nat → Nat → Int64} {Rf : Nat → Nat → Option Nat} (d : Nat) {T : zT} {H : Nat} (hM : zM n kd I L Rf T) (hO : zOk H T) {i : Int32} (hi : ¬ (0 ≤ i ∧ i ≤ 1))  : zq mX11_again (d + 20) [.ref 112, .int i] (n, sl, kd, I, L, Rf) (zpM n sl kd I L Rf (some (.int (s_again T i).1)) (s_again T i).2) := by
  intro f B
  refine ez_meth pn_X.2.2.2.2.2.2.2.2.2.2.2 (Nat.le_of_ble_eq_true rfl) ?_
  have hF := hM.F
  have hc7 := hO.c
  have hsp : s_again T i = (0, T) := (by unfold s_again; rw [if_neg hi])
  rw [hsp]
  show ez_P _ _ _ _ _ _ 0 [(0, .ref 112), (1, .int i)] [] (n, sl, kd, I, L, Rf) _
  refine ez_aload_n (i := 0) dX11_again_0 rfl rfl ?_
  refine ez_iconst (v := 0) dX11_again_1 (by decide) ?_
  refine ez_pI dX11_again_2 plX11_89 (hF.lt (by decide)) (hF.lx (by decide)) (hF.kc (by decide) rfl) rfl rfl ?_
  refine ez_nmI (fun I1 hI1 => ?_)
  have hM1 : zM n kd I1 L Rf T := by rw [hI1]; exact hM.f9
  refine ez_iload_n (i := 1) dX11_again_5 rfl rfl ?_
  refine ez_iconst (v := 0) dX11_again_6 (by decide) ?_
  refine ez_iconst (v := 1) dX11_again_7 (by decide) ?_
  refine ez_callS (M1 := mX11_in) (rest := []) dX11_again_8 mlX11_98 msX11_in rfl (Nat.le_of_ble_eq_true rfl) rfl (zq_b0 hi (zq_b (q_X11_in (d + 19) i 0 1) (n, sl, kd, I1, L, Rf))) eb_rok ?_
  rintro _ _ ⟨rfl, rfl⟩
  show ez_P _ _ _ _ _ _ 11 [(0, .ref 112), (1, .int i)] (.int 0 :: []) _ _
  refine ez_if_eq (tgt := 36) dX11_again_11 (by decide) (fun c2 => ?_) (fun c2 => absurd (by decide) c2)
  refine ez_iconst (v := 0) dX11_again_36 (by decide) ?_
  refine ez_iret dX11_again_37 rfl (by decide) ?_
  have hJ : ∀ c, c ≠ 112 → I1 c = I c := fun c g112 => by rw [hI1, z_set_ne (by omega)]
  have hJf : ∀ k, k ≠ 9 → I1 112 k = I 112 k := fun k g9 => by rw [hI1, z_set_nk (by omega)]
  exact ⟨rfl, _, _, _, rfl, ⟨hM.F, hM.ru, (by rw [(hJf 18 (by decide)), (hJ 119 (by decide))]; exact hM.rv), ⟨(hJf 6 (by decide)).trans hM.tx.1, fun k hk => by rw [(hJ 116 (by decide))]; exact hM.tx.2 k hk⟩, ⟨(hJf 8 (by decide)).trans hM.rw.1, hM.rw.2⟩, (by rw [(hJ 114 (by decide))]; exact hM.pr), ((hJf 4 (by decide)).trans hM.wm), (by rw [(hJ 115 (by decide))]; exact hM.wd), ((hJf 1 (by decide)).trans hM.c), (by rw [(hJ 113 (by decide))]; exact hM.x), (by rw [(hJf 22 (by decide)), (hJ 122 (by decide))]; exact hM.un), (by rw [(hJf 38 (by decide)), (hJ 134 (by decide)), (hJ 135 (by decide)), (hJ 136 (by decide))]; exact hM.kp), (by rw [(hJf 30 (by decide)), (hJ 126 (by decide)), (hJ 127 (by decide)), (hJ 128 (by decide))]; exact hM.sn), (by rw [(hJf 34 (by decide)), (hJ 130 (by decide)), (hJ 131 (by decide))]; exact hM.hd)⟩, (by rw [hI1, z_set_at]), fun c hc => ⟨hJ c (by omega), rfl, rfl⟩⟩
theorem y_X11_keep {n : Nat} {sl : Nat × Nat} {kd : Nat → Nat × Nat} {I : Nat → Nat → Int32} {L : Nat → Nat → Int64} {Rf : Nat → Nat → Option Nat} (d : Nat) {T : zT} {H : Nat} (hM : zM n kd I L Rf T) (hO : zOk H T) (i : Int32) : zq mX11_keep (d + 20) [.ref 112, .int i] (n, sl, kd, I, L, Rf) (zpM n sl kd I L Rf (some (.int (s_keep T i).1)) (s_keep T i).2) := by
  by_cases hi : 0 ≤ i ∧ i ≤ 1
  · obtain ⟨i0, h0, rfl⟩ := pk_of (c := 2) (by decide) hi.1 (z_le1 (k := 1) (by decide) hi.2)
    exact y_X11_keep_ok d hM hO h0
  · exact y_X11_keep_no d hM hO hi
theorem y_X11_again {n : Nat} {sl : Nat × Nat} {kd : Nat → Nat × Nat} {I : Nat → Nat → Int32} {L : Nat → Nat → Int64} {Rf : Nat → Nat → Option Nat} (d : Nat) {T : zT} {H : Nat} (hM : zM n kd I L Rf T) (hO : zOk H T) (i : Int32) : zq mX11_again (d + 20) [.ref 112, .int i] (n, sl, kd, I, L, Rf) (zpM n sl kd I L Rf (some (.int (s_again T i).1)) (s_again T i).2) := by
  by_cases hi : 0 ≤ i ∧ i ≤ 1
  · obtain ⟨i0, h0, rfl⟩ := pk_of (c := 2) (by decide) hi.1 (z_le1 (k := 1) (by decide) hi.2)
    cases hy : T.kp i0 with
    | none => exact y_X11_again_none d hM hO h0 hy
    | some y => exact y_X11_again_ok d hM hO h0 hy
  · exact y_X11_again_no d hM hO hi
