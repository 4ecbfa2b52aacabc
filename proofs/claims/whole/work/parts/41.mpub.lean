/-! the reference: sign, end, undo, keep, again, saw, denies, heard, forget, price, row, sheet -/
def s_end (T : zT) (v : Int32) : Int32 × zT := if 0 ≤ v ∧ v ≤ nI T.tx.length then (1, (T.w_tx (T.tx.take v.toNatClampNeg))) else (0, T)
def z_by (v : Int32) (j : Nat) : Int32 := v >>> (nI (24 - 8 * j) &&& 31) &&& 255
def s_sign (T : zT) (v : Int32) : Int32 × zT := if T.tx.length + 4 ≤ 80 then (nI (T.tx.length + 4), (T.w_tx (T.tx ++ [z_by v 0, z_by v 1, z_by v 2, z_by v 3]))) else (-1, T)
def s_undo (T : zT) : Int32 × zT := match T.un.getLast? with
  | none => (-1, T)
  | some y => (nI (T.un.length - 1), ((T.w_x (y)).w_un (T.un.dropLast)))
def s_keep (T : zT) (i : Int32) : Int32 × zT := if 0 ≤ i ∧ i ≤ 1 then (1, (T.w_kp (fun q => if q = i.toNatClampNeg then some T.x else T.kp q))) else (0, T)
def s_again (T : zT) (i : Int32) : Int32 × zT := if 0 ≤ i ∧ i ≤ 1 then (match T.kp i.toNatClampNeg with
  | none => (0, T)
  | some y => (1, ((T.w_x (y)).w_un ([])))) else (0, T)
def s_saw (T : zT) (w s v : Int32) : Int32 × zT := if ((-9 ≤ w ∧ w ≤ 9) ∧ (0 ≤ s ∧ s ≤ 9) ∧ (-20 ≤ v ∧ v ≤ 20)) ∧ T.sn.length < 10 then (nI (T.sn.length + 1), (T.w_sn (T.sn ++ [(w, s, v)]))) else (-1, T)
def s_denies (T : zT) : Int32 × zT := (nI T.sn.length, (T.w_sn ([])))
def z_hi (k : Int32) : Int32 := if k = 1 ∨ k = 3 then 5 else if k = 2 then 1 else 9
def s_heard (T : zT) (k v : Int32) : Int32 × zT := if ((0 ≤ k ∧ k ≤ 4) ∧ (0 ≤ v ∧ v ≤ z_hi k)) ∧ T.hd.length < 12 then (nI (T.hd.length + 1), (T.w_hd (T.hd ++ [(k, v)]))) else (-1, T)
def s_forget (T : zT) : Int32 × zT := (nI T.hd.length, (T.w_hd ([])))
theorem z_snoc {α : Type} {l : List α} {y z : α} {k : Nat} (h : (l ++ [y])[k]? = some z) : (k < l.length ∧ l[k]? = some z) ∨ (k = l.length ∧ z = y) := by
  by_cases hk : k < l.length
  · rw [List.getElem?_append_left hk] at h; exact Or.inl ⟨hk, h⟩
  · rw [List.getElem?_append_right (by omega)] at h
    by_cases e : k - l.length = 0
    · rw [e] at h; simp at h; exact Or.inr ⟨by omega, h.symm⟩
    · rw [List.getElem?_eq_none (by simp; omega)] at h; cases h
theorem z_lt_len {α : Type} {l : List α} {z : α} {k : Nat} (h : l[k]? = some z) : k < l.length := by
  by_cases hk : k < l.length
  · exact hk
  · rw [List.getElem?_eq_none (by omega)] at h; cases h
theorem z_le1 {v : Int32} {k : Nat} (hk : k < 2147483647) (h : v ≤ nI k) : v < nI k + 1 := by
  rw [nI_1]
  have h1 := nI_lt (a := k) (b := k + 1) (by omega) (by omega)
  exact Int32.lt_of_le_of_lt h h1
theorem y_X11_end {n : Nat} {sl : Nat × Nat} {kd : Nat → Nat × Nat} {I : Nat → Nat → Int32} {L : Nat → Nat → Int64} {Rf : Nat → Nat → Option Nat} (d : Nat) {T : zT} {H : Nat} (hM : zM n kd I L Rf T) (hO : zOk H T) (v : Int32)  : zq mX11_end (d + 20) [.ref 112, .int v] (n, sl, kd, I, L, Rf) (zpM n sl kd I L Rf (some (.int (s_end T v).1)) (s_end T v).2) := by
  intro f B
  refine ez_meth pn_X.2.2.2.2.2.2.2.2.2.2.2 (Nat.le_of_ble_eq_true rfl) ?_
  have hF := hM.F
  have hc7 := hO.c
  show ez_P _ _ _ _ _ _ 0 [(0, .ref 112), (1, .int v)] [] (n, sl, kd, I, L, Rf) _
  refine ez_aload_n (i := 0) dX11_end_0 rfl rfl ?_
  refine ez_iconst (v := 0) dX11_end_1 (by decide) ?_
  refine ez_pI dX11_end_2 plX11_89 (hF.lt (by decide)) (hF.lx (by decide)) (hF.kc (by decide) rfl) rfl rfl ?_
  refine ez_nmI (fun I1 hI1 => ?_)
  have hM1 : zM n kd I1 L Rf T := by rw [hI1]; exact hM.f9
  refine ez_iload_n (i := 1) dX11_end_5 rfl rfl ?_
  refine ez_iconst (v := 0) dX11_end_6 (by decide) ?_
  refine ez_aload_n (i := 0) dX11_end_7 rfl rfl ?_
  refine ez_getI dX11_end_8 flX11_102 (hF.lt (by decide)) (hF.kc (by decide) rfl) ?_
  refine ez_topE (y := I 112 6) (by rw [hI1, z_set_nk (by decide)]) ?_
  refine ez_topE (y := nI T.tx.length) hM.tx.1 ?_
  refine ez_callS (M1 := mX11_in) (rest := []) dX11_end_11 mlX11_98 msX11_in rfl (Nat.le_of_ble_eq_true rfl) rfl (zq_b (q_X11_in (d + 19) v 0 (nI T.tx.length)) (n, sl, kd, I1, L, Rf)) eb_bok ?_
  rintro _ _ ⟨rfl, ⟨b2, rfl⟩ | ⟨b2, rfl⟩⟩
  · show ez_P _ _ _ _ _ _ 14 [(0, .ref 112), (1, .int v)] (.int 1 :: []) _ _
    refine ez_if_ne (tgt := 19) dX11_end_14 (by decide) (fun c3 => ?_) (fun c3 => absurd (by decide) c3)
    refine ez_aload_n (i := 0) dX11_end_19 rfl rfl ?_
    refine ez_iload_n (i := 1) dX11_end_20 rfl rfl ?_
    refine ez_pI dX11_end_21 plX11_102 (hF.lt (by decide)) (hF.lx (by decide)) (hF.kc (by decide) rfl) rfl rfl ?_
    refine ez_nmI (fun I4 hI4 => ?_)
    refine ez_iconst (v := 1) dX11_end_24 (by decide) ?_
    refine ez_iret dX11_end_25 rfl (by decide) ?_
    have hJ : ∀ c, c ≠ 112 → I4 c = I c := fun c g112 => by rw [hI4, z_set_ne (by omega), hI1, z_set_ne (by omega)]
    have hJf : ∀ k, k ≠ 6 → k ≠ 9 → I4 112 k = I 112 k := fun k g6 g9 => by rw [hI4, z_set_nk (by omega), hI1, z_set_nk (by omega)]
    rw [show s_end T v = (1, (T.w_tx (T.tx.take v.toNatClampNeg))) from by unfold s_end; rw [if_pos (by assumption)]]
    obtain ⟨v0, hv0, hv1⟩ := pk_of (x := v) (c := T.tx.length + 1) (by have := hO.txl; omega) (b2).1 (by rw [← nI_1]; exact z_le1 (by have := hO.txl; omega) (b2).2)
    have hvl : v.toNatClampNeg ≤ T.tx.length := by rw [hv1, nI_clamp (by have := hO.txl; omega)]; omega
    have hve : nI v.toNatClampNeg = v := by rw [hv1, nI_clamp (by have := hO.txl; omega)]
    exact ⟨rfl, _, _, _, rfl, ⟨hM.F, hM.ru, (by rw [(hJf 18 (by decide) (by decide)), (hJ 119 (by decide))]; exact hM.rv), ⟨(by rw [hI4, z_set_at]; show v = nI (T.tx.take v.toNatClampNeg).length; rw [List.length_take, Nat.min_eq_left hvl, hve]), fun k hk => (by have hk2 : k < v.toNatClampNeg := (by have h9 : k < (T.tx.take v.toNatClampNeg).length := hk; rw [List.length_take] at h9; omega); rw [hJ 116 (by decide)]; show I 116 k = ((T.tx.take v.toNatClampNeg).getD k 0).toInt8.toInt32; rw [show (T.tx.take v.toNatClampNeg).getD k 0 = T.tx.getD k 0 from (by simp [List.getD, List.getElem?_take, hk2])]; exact hM.tx.2 k (by omega))⟩, ⟨(hJf 8 (by decide) (by decide)).trans hM.rw.1, hM.rw.2⟩, (by rw [(hJ 114 (by decide))]; exact hM.pr), ((hJf 4 (by decide) (by decide)).trans hM.wm), (by rw [(hJ 115 (by decide))]; exact hM.wd), ((hJf 1 (by decide) (by decide)).trans hM.c), (by rw [(hJ 113 (by decide))]; exact hM.x), (by rw [(hJf 22 (by decide) (by decide)), (hJ 122 (by decide))]; exact hM.un), (by rw [(hJf 38 (by decide) (by decide)), (hJ 134 (by decide)), (hJ 135 (by decide)), (hJ 136 (by decide))]; exact hM.kp), (by rw [(hJf 30 (by decide) (by decide)), (hJ 126 (by decide)), (hJ 127 (by decide)), (hJ 128 (by decide))]; exact hM.sn), (by rw [(hJf 34 (by decide) (by decide)), (hJ 130 (by decide)), (hJ 131 (by decide))]; exact hM.hd)⟩, (by rw [hI4, z_set_nk (by decide), hI1, z_set_at]), fun c hc => ⟨hJ c (by omega), rfl, rfl⟩⟩
  · show ez_P _ _ _ _ _ _ 14 [(0, .ref 112), (1, .int v)] (.int 0 :: []) _ _
    refine ez_if_ne (tgt := 19) dX11_end_14 (by decide) (fun c5 => absurd c5 (by decide)) (fun c5 => ?_)
    refine ez_iconst (v := 0) dX11_end_17 (by decide) ?_
    refine ez_iret dX11_end_18 rfl (by decide) ?_
    have hJ : ∀ c, c ≠ 112 → I1 c = I c := fun c g112 => by rw [hI1, z_set_ne (by omega)]
    have hJf : ∀ k, k ≠ 9 → I1 112 k = I 112 k := fun k g9 => by rw [hI1, z_set_nk (by omega)]
    rw [show s_end T v = (0, T) from by unfold s_end; rw [if_neg (by assumption)]]
    exact ⟨rfl, _, _, _, rfl, ⟨hM.F, hM.ru, (by rw [(hJf 18 (by decide)), (hJ 119 (by decide))]; exact hM.rv), ⟨(hJf 6 (by decide)).trans hM.tx.1, fun k hk => by rw [(hJ 116 (by decide))]; exact hM.tx.2 k hk⟩, ⟨(hJf 8 (by decide)).trans hM.rw.1, hM.rw.2⟩, (by rw [(hJ 114 (by decide))]; exact hM.pr), ((hJf 4 (by decide)).trans hM.wm), (by rw [(hJ 115 (by decide))]; exact hM.wd), ((hJf 1 (by decide)).trans hM.c), (by rw [(hJ 113 (by decide))]; exact hM.x), (by rw [(hJf 22 (by decide)), (hJ 122 (by decide))]; exact hM.un), (by rw [(hJf 38 (by decide)), (hJ 134 (by decide)), (hJ 135 (by decide)), (hJ 136 (by decide))]; exact hM.kp), (by rw [(hJf 30 (by decide)), (hJ 126 (by decide)), (hJ 127 (by decide)), (hJ 128 (by decide))]; exact hM.sn), (by rw [(hJf 34 (by decide)), (hJ 130 (by decide)), (hJ 131 (by decide))]; exact hM.hd)⟩, (by rw [hI1, z_set_at]), fun c hc => ⟨hJ c (by omega), rfl, rfl⟩⟩
theorem y_X11_denies {n : Nat} {sl : Nat × Nat} {kd : Nat → Nat × Nat} {I : Nat → Nat → Int32} {L : Nat → Nat → Int64} {Rf : Nat → Nat → Option Nat} (d : Nat) {T : zT} {H : Nat} (hM : zM n kd I L Rf T) (hO : zOk H T)  : zq mX11_denies (d + 20) [.ref 112] (n, sl, kd, I, L, Rf) (zpM n sl kd I L Rf (some (.int (s_denies T).1)) (s_denies T).2) := by
  intro f B
  refine ez_meth pn_X.2.2.2.2.2.2.2.2.2.2.2 (Nat.le_of_ble_eq_true rfl) ?_
  have hF := hM.F
  have hc7 := hO.c
  have hsp : s_denies T = (nI T.sn.length, (T.w_sn ([]))) := rfl
  rw [hsp]
  show ez_P _ _ _ _ _ _ 0 [(0, .ref 112)] [] (n, sl, kd, I, L, Rf) _
  refine ez_aload_n (i := 0) dX11_denies_0 rfl rfl ?_
  refine ez_iconst (v := 0) dX11_denies_1 (by decide) ?_
  refine ez_pI dX11_denies_2 plX11_89 (hF.lt (by decide)) (hF.lx (by decide)) (hF.kc (by decide) rfl) rfl rfl ?_
  refine ez_nmI (fun I1 hI1 => ?_)
  have hM1 : zM n kd I1 L Rf T := by rw [hI1]; exact hM.f9
  refine ez_aload_n (i := 0) dX11_denies_5 rfl rfl ?_
  refine ez_getI dX11_denies_6 flX11_330 (hF.lt (by decide)) (hF.kc (by decide) rfl) ?_
  refine ez_topE (y := I 112 30) (by rw [hI1, z_set_nk (by decide)]) ?_
  refine ez_topE (y := nI T.sn.length) hM.sn.1 ?_
  refine ez_istore_n (l' := [(1, .int (nI T.sn.length)), (0, .ref 112)]) dX11_denies_9 rfl (by decide) rfl ?_
  refine ez_aload_n (i := 0) dX11_denies_10 rfl rfl ?_
  refine ez_iconst (v := 0) dX11_denies_11 (by decide) ?_
  refine ez_pI dX11_denies_12 plX11_330 (hF.lt (by decide)) (hF.lx (by decide)) (hF.kc (by decide) rfl) rfl rfl ?_
  refine ez_nmI (fun I2 hI2 => ?_)
  refine ez_iload_n (i := 1) dX11_denies_15 rfl rfl ?_
  refine ez_iret dX11_denies_16 rfl rfl ?_
  have hJ : ∀ c, c ≠ 112 → I2 c = I c := fun c g112 => by rw [hI2, z_set_ne (by omega), hI1, z_set_ne (by omega)]
  have hJf : ∀ k, k ≠ 9 → k ≠ 30 → I2 112 k = I 112 k := fun k g9 g30 => by rw [hI2, z_set_nk (by omega), hI1, z_set_nk (by omega)]
  exact ⟨rfl, _, _, _, rfl, ⟨hM.F, hM.ru, (by rw [(hJf 18 (by decide) (by decide)), (hJ 119 (by decide))]; exact hM.rv), ⟨(hJf 6 (by decide) (by decide)).trans hM.tx.1, fun k hk => by rw [(hJ 116 (by decide))]; exact hM.tx.2 k hk⟩, ⟨(hJf 8 (by decide) (by decide)).trans hM.rw.1, hM.rw.2⟩, (by rw [(hJ 114 (by decide))]; exact hM.pr), ((hJf 4 (by decide) (by decide)).trans hM.wm), (by rw [(hJ 115 (by decide))]; exact hM.wd), ((hJf 1 (by decide) (by decide)).trans hM.c), (by rw [(hJ 113 (by decide))]; exact hM.x), (by rw [(hJf 22 (by decide) (by decide)), (hJ 122 (by decide))]; exact hM.un), (by rw [(hJf 38 (by decide) (by decide)), (hJ 134 (by decide)), (hJ 135 (by decide)), (hJ 136 (by decide))]; exact hM.kp), ⟨(by rw [hI2, z_set_at]; rfl), fun k q hk => (by cases hk)⟩, (by rw [(hJf 34 (by decide) (by decide)), (hJ 130 (by decide)), (hJ 131 (by decide))]; exact hM.hd)⟩, (by rw [hI2, z_set_nk (by decide), hI1, z_set_at]), fun c hc => ⟨hJ c (by omega), rfl, rfl⟩⟩
theorem y_X11_forget {n : Nat} {sl : Nat × Nat} {kd : Nat → Nat × Nat} {I : Nat → Nat → Int32} {L : Nat → Nat → Int64} {Rf : Nat → Nat → Option Nat} (d : Nat) {T : zT} {H : Nat} (hM : zM n kd I L Rf T) (hO : zOk H T)  : zq mX11_forget (d + 20) [.ref 112] (n, sl, kd, I, L, Rf) (zpM n sl kd I L Rf (some (.int (s_forget T).1)) (s_forget T).2) := by
  intro f B
  refine ez_meth pn_X.2.2.2.2.2.2.2.2.2.2.2 (Nat.le_of_ble_eq_true rfl) ?_
  have hF := hM.F
  have hc7 := hO.c
  have hsp : s_forget T = (nI T.hd.length, (T.w_hd ([]))) := rfl
  rw [hsp]
  show ez_P _ _ _ _ _ _ 0 [(0, .ref 112)] [] (n, sl, kd, I, L, Rf) _
  refine ez_aload_n (i := 0) dX11_forget_0 rfl rfl ?_
  refine ez_iconst (v := 0) dX11_forget_1 (by decide) ?_
  refine ez_pI dX11_forget_2 plX11_89 (hF.lt (by decide)) (hF.lx (by decide)) (hF.kc (by decide) rfl) rfl rfl ?_
  refine ez_nmI (fun I1 hI1 => ?_)
  have hM1 : zM n kd I1 L Rf T := by rw [hI1]; exact hM.f9
  refine ez_aload_n (i := 0) dX11_forget_5 rfl rfl ?_
  refine ez_getI dX11_forget_6 flX11_346 (hF.lt (by decide)) (hF.kc (by decide) rfl) ?_
  refine ez_topE (y := I 112 34) (by rw [hI1, z_set_nk (by decide)]) ?_
  refine ez_topE (y := nI T.hd.length) hM.hd.1 ?_
  refine ez_istore_n (l' := [(1, .int (nI T.hd.length)), (0, .ref 112)]) dX11_forget_9 rfl (by decide) rfl ?_
  refine ez_aload_n (i := 0) dX11_forget_10 rfl rfl ?_
  refine ez_iconst (v := 0) dX11_forget_11 (by decide) ?_
  refine ez_pI dX11_forget_12 plX11_346 (hF.lt (by decide)) (hF.lx (by decide)) (hF.kc (by decide) rfl) rfl rfl ?_
  refine ez_nmI (fun I2 hI2 => ?_)
  refine ez_iload_n (i := 1) dX11_forget_15 rfl rfl ?_
  refine ez_iret dX11_forget_16 rfl rfl ?_
  have hJ : ∀ c, c ≠ 112 → I2 c = I c := fun c g112 => by rw [hI2, z_set_ne (by omega), hI1, z_set_ne (by omega)]
  have hJf : ∀ k, k ≠ 9 → k ≠ 34 → I2 112 k = I 112 k := fun k g9 g34 => by rw [hI2, z_set_nk (by omega), hI1, z_set_nk (by omega)]
  exact ⟨rfl, _, _, _, rfl, ⟨hM.F, hM.ru, (by rw [(hJf 18 (by decide) (by decide)), (hJ 119 (by decide))]; exact hM.rv), ⟨(hJf 6 (by decide) (by decide)).trans hM.tx.1, fun k hk => by rw [(hJ 116 (by decide))]; exact hM.tx.2 k hk⟩, ⟨(hJf 8 (by decide) (by decide)).trans hM.rw.1, hM.rw.2⟩, (by rw [(hJ 114 (by decide))]; exact hM.pr), ((hJf 4 (by decide) (by decide)).trans hM.wm), (by rw [(hJ 115 (by decide))]; exact hM.wd), ((hJf 1 (by decide) (by decide)).trans hM.c), (by rw [(hJ 113 (by decide))]; exact hM.x), (by rw [(hJf 22 (by decide) (by decide)), (hJ 122 (by decide))]; exact hM.un), (by rw [(hJf 38 (by decide) (by decide)), (hJ 134 (by decide)), (hJ 135 (by decide)), (hJ 136 (by decide))]; exact hM.kp), (by rw [(hJf 30 (by decide) (by decide)), (hJ 126 (by decide)), (hJ 127 (by decide)), (hJ 128 (by decide))]; exact hM.sn), ⟨(by rw [hI2, z_set_at]; rfl), fun k q hk => (by cases hk)⟩⟩, (by rw [hI2, z_set_nk (by decide), hI1, z_set_at]), fun c hc => ⟨hJ c (by omega), rfl, rfl⟩⟩
theorem z_n10 {k m : Nat} (h : ¬ nI k ≠ nI m) (hk : k < 2147483648) (hm : m < 2147483648) : k = m := z_nIinj (Classical.not_not.mp h) hk hm
theorem q_X11_highOf (d : Nat) (k : Int32) (σ : eb_S) : eb_Q mX11_highOf d [.int k] σ (eb_r (z_hi k) σ) := by
  refine ep_meth pn_X.2.2.2.2.2.2.2.2.2.2.2 (Nat.le_of_ble_eq_true rfl) ?_
  show eb_P _ _ 0 [(0, .int k)] [] σ _
  refine ep_iload_n (i := 0) dX11_highOf_0 rfl rfl ?_
  refine ep_iconst (v := 1) dX11_highOf_1 (by decide) ?_
  refine ep_icmp_eq (tgt := 10) dX11_highOf_2 (by decide) (fun c1 => ?_) (fun c1 => ?_)
  · skip
    refine ep_iconst (v := 5) dX11_highOf_10 (by decide) ?_
    refine ep_goto (tgt := 25) dX11_highOf_11 (by decide) ?_
    refine ep_iret dX11_highOf_25 rfl rfl ?_
    exact ⟨rfl, by simp [z_hi, *]⟩
  · skip
    refine ep_iload_n (i := 0) dX11_highOf_5 rfl rfl ?_
    refine ep_iconst (v := 3) dX11_highOf_6 (by decide) ?_
    refine ep_icmp_ne (tgt := 14) dX11_highOf_7 (by decide) (fun c2 => ?_) (fun c2 => ?_)
    · skip
      refine ep_iload_n (i := 0) dX11_highOf_14 rfl rfl ?_
      refine ep_iconst (v := 2) dX11_highOf_15 (by decide) ?_
      refine ep_icmp_ne (tgt := 23) dX11_highOf_16 (by decide) (fun c3 => ?_) (fun c3 => ?_)
      · skip
        refine ep_bipush (v := 9) dX11_highOf_23 (by decide) ?_
        refine ep_iret dX11_highOf_25 rfl rfl ?_
        exact ⟨rfl, by simp [z_hi, *]⟩
      · skip
        refine ep_iconst (v := 1) dX11_highOf_19 (by decide) ?_
        refine ep_goto (tgt := 25) dX11_highOf_20 (by decide) ?_
        refine ep_iret dX11_highOf_25 rfl rfl ?_
        exact ⟨rfl, by simp [z_hi, *]⟩
    · skip
      refine ep_iconst (v := 5) dX11_highOf_10 (by decide) ?_
      refine ep_goto (tgt := 25) dX11_highOf_11 (by decide) ?_
      refine ep_iret dX11_highOf_25 rfl rfl ?_
      exact ⟨rfl, by simp [z_hi, *]⟩
theorem y_X11_saw {n : Nat} {sl : Nat × Nat} {kd : Nat → Nat × Nat} {I : Nat → Nat → Int32} {L : Nat → Nat → Int64} {Rf : Nat → Nat → Option Nat} (d : Nat) {T : zT} {H : Nat} (hM : zM n kd I L Rf T) (hO : zOk H T) (w s v : Int32)  : zq mX11_saw (d + 20) [.ref 112, .int w, .int s, .int v] (n, sl, kd, I, L, Rf) (zpM n sl kd I L Rf (some (.int (s_saw T w s v).1)) (s_saw T w s v).2) := by
  intro f B
  refine ez_meth pn_X.2.2.2.2.2.2.2.2.2.2.2 (Nat.le_of_ble_eq_true rfl) ?_
  have hF := hM.F
  have hc7 := hO.c
  show ez_P _ _ _ _ _ _ 0 [(0, .ref 112), (1, .int w), (2, .int s), (3, .int v)] [] (n, sl, kd, I, L, Rf) _
  refine ez_aload_n (i := 0) dX11_saw_0 rfl rfl ?_
  refine ez_iconst (v := 0) dX11_saw_1 (by decide) ?_
  refine ez_pI dX11_saw_2 plX11_89 (hF.lt (by decide)) (hF.lx (by decide)) (hF.kc (by decide) rfl) rfl rfl ?_
  refine ez_nmI (fun I1 hI1 => ?_)
  have hM1 : zM n kd I1 L Rf T := by rw [hI1]; exact hM.f9
  refine ez_iload_n (i := 1) dX11_saw_5 rfl rfl ?_
  refine ez_bipush (v := (-9)) dX11_saw_6 (by decide) ?_
  refine ez_bipush (v := 9) dX11_saw_8 (by decide) ?_
  refine ez_callS (M1 := mX11_in) (rest := []) dX11_saw_10 mlX11_98 msX11_in rfl (Nat.le_of_ble_eq_true rfl) rfl (zq_b (q_X11_in (d + 19) w (-9) 9) (n, sl, kd, I1, L, Rf)) eb_bok ?_
  rintro _ _ ⟨rfl, ⟨b2, rfl⟩ | ⟨b2, rfl⟩⟩
  · show ez_P _ _ _ _ _ _ 13 [(0, .ref 112), (1, .int w), (2, .int s), (3, .int v)] (.int 1 :: []) _ _
    refine ez_if_eq (tgt := 46) dX11_saw_13 (by decide) (fun c3 => absurd c3 (by decide)) (fun c3 => ?_)
    refine ez_iload_n (i := 2) dX11_saw_16 rfl rfl ?_
    refine ez_iconst (v := 0) dX11_saw_17 (by decide) ?_
    refine ez_bipush (v := 9) dX11_saw_18 (by decide) ?_
    refine ez_callS (M1 := mX11_in) (rest := []) dX11_saw_20 mlX11_98 msX11_in rfl (Nat.le_of_ble_eq_true rfl) rfl (zq_b (q_X11_in (d + 19) s 0 9) (n, sl, kd, I1, L, Rf)) eb_bok ?_
    rintro _ _ ⟨rfl, ⟨b4, rfl⟩ | ⟨b4, rfl⟩⟩
    · show ez_P _ _ _ _ _ _ 23 [(0, .ref 112), (1, .int w), (2, .int s), (3, .int v)] (.int 1 :: []) _ _
      refine ez_if_eq (tgt := 46) dX11_saw_23 (by decide) (fun c5 => absurd c5 (by decide)) (fun c5 => ?_)
      refine ez_iload_n (i := 3) dX11_saw_26 rfl rfl ?_
      refine ez_bipush (v := (-20)) dX11_saw_27 (by decide) ?_
      refine ez_bipush (v := 20) dX11_saw_29 (by decide) ?_
      refine ez_callS (M1 := mX11_in) (rest := []) dX11_saw_31 mlX11_98 msX11_in rfl (Nat.le_of_ble_eq_true rfl) rfl (zq_b (q_X11_in (d + 19) v (-20) 20) (n, sl, kd, I1, L, Rf)) eb_bok ?_
      rintro _ _ ⟨rfl, ⟨b6, rfl⟩ | ⟨b6, rfl⟩⟩
      · show ez_P _ _ _ _ _ _ 34 [(0, .ref 112), (1, .int w), (2, .int s), (3, .int v)] (.int 1 :: []) _ _
        refine ez_if_eq (tgt := 46) dX11_saw_34 (by decide) (fun c7 => absurd c7 (by decide)) (fun c7 => ?_)
        refine ez_aload_n (i := 0) dX11_saw_37 rfl rfl ?_
        refine ez_getI dX11_saw_38 flX11_330 (hF.lt (by decide)) (hF.kc (by decide) rfl) ?_
        refine ez_topE (y := I 112 30) (by rw [hI1, z_set_nk (by decide)]) ?_
        refine ez_topE (y := nI T.sn.length) hM.sn.1 ?_
        refine ez_bipush (v := 10) dX11_saw_41 (by decide) ?_
        refine ez_icmp_ne (tgt := 48) dX11_saw_43 (by decide) (fun c8 => ?_) (fun c8 => ?_)
        · skip
          have hlt : T.sn.length < 10 := by have h1 := hO.snl; have h2 : T.sn.length ≠ 10 := (fun e => absurd (show nI T.sn.length = 10 by rw [e]; rfl) (by assumption)); omega
          refine ez_aload_n (i := 0) dX11_saw_48 rfl rfl ?_
          refine ez_getR dX11_saw_49 flX11_55 (hF.lt (by decide)) (hF.kc (by decide) rfl) (hF.pt 119 rfl) ?_
          refine ez_aload_n (i := 0) dX11_saw_52 rfl rfl ?_
          refine ez_getI dX11_saw_53 flX11_330 (hF.lt (by decide)) (hF.kc (by decide) rfl) ?_
          refine ez_topE (y := I 112 30) (by rw [hI1, z_set_nk (by decide)]) ?_
          refine ez_topE (y := nI T.sn.length) hM.sn.1 ?_
          refine ez_iload_n (i := 1) dX11_saw_56 rfl rfl ?_
          refine ez_isN (k := T.sn.length) dX11_saw_57 (hF.lt (by decide)) (hF.lx (by decide)) (hF.ka (by decide) rfl) (by omega) (by decide) ?_
          refine ez_nmI (fun I9 hI9 => ?_)
          refine ez_aload_n (i := 0) dX11_saw_58 rfl rfl ?_
          refine ez_getR dX11_saw_59 flX11_58 (hF.lt (by decide)) (hF.kc (by decide) rfl) (hF.pt 120 rfl) ?_
          refine ez_aload_n (i := 0) dX11_saw_62 rfl rfl ?_
          refine ez_getI dX11_saw_63 flX11_330 (hF.lt (by decide)) (hF.kc (by decide) rfl) ?_
          refine ez_topE (y := I 112 30) (by rw [hI9, z_set_ne (by decide), hI1, z_set_nk (by decide)]) ?_
          refine ez_topE (y := nI T.sn.length) hM.sn.1 ?_
          refine ez_iload_n (i := 2) dX11_saw_66 rfl rfl ?_
          refine ez_isN (k := T.sn.length) dX11_saw_67 (hF.lt (by decide)) (hF.lx (by decide)) (hF.ka (by decide) rfl) (by omega) (by decide) ?_
          refine ez_nmI (fun I10 hI10 => ?_)
          refine ez_aload_n (i := 0) dX11_saw_68 rfl rfl ?_
          refine ez_getR dX11_saw_69 flX11_61 (hF.lt (by decide)) (hF.kc (by decide) rfl) (hF.pt 121 rfl) ?_
          refine ez_aload_n (i := 0) dX11_saw_72 rfl rfl ?_
          refine ez_getI dX11_saw_73 flX11_330 (hF.lt (by decide)) (hF.kc (by decide) rfl) ?_
          refine ez_topE (y := I 112 30) (by rw [hI10, z_set_ne (by decide), hI9, z_set_ne (by decide), hI1, z_set_nk (by decide)]) ?_
          refine ez_topE (y := nI T.sn.length) hM.sn.1 ?_
          refine ez_iload_n (i := 3) dX11_saw_76 rfl rfl ?_
          refine ez_isN (k := T.sn.length) dX11_saw_77 (hF.lt (by decide)) (hF.lx (by decide)) (hF.ka (by decide) rfl) (by omega) (by decide) ?_
          refine ez_nmI (fun I11 hI11 => ?_)
          refine ez_aload_n (i := 0) dX11_saw_78 rfl rfl ?_
          refine ez_dup dX11_saw_79 rfl ?_
          refine ez_getI dX11_saw_80 flX11_330 (hF.lt (by decide)) (hF.kc (by decide) rfl) ?_
          refine ez_topE (y := I 112 30) (by rw [hI11, z_set_ne (by decide), hI10, z_set_ne (by decide), hI9, z_set_ne (by decide), hI1, z_set_nk (by decide)]) ?_
          refine ez_topE (y := nI T.sn.length) hM.sn.1 ?_
          refine ez_iconst (v := 1) dX11_saw_83 (by decide) ?_
          refine ez_iadd dX11_saw_84 ?_
          refine ez_topE (y := nI (T.sn.length + 1)) (nI_add _ _) ?_
          refine ez_pI dX11_saw_85 plX11_330 (hF.lt (by decide)) (hF.lx (by decide)) (hF.kc (by decide) rfl) rfl rfl ?_
          refine ez_nmI (fun I12 hI12 => ?_)
          refine ez_aload_n (i := 0) dX11_saw_88 rfl rfl ?_
          refine ez_getI dX11_saw_89 flX11_330 (hF.lt (by decide)) (hF.kc (by decide) rfl) ?_
          refine ez_topE (y := nI (T.sn.length + 1)) (by rw [hI12, z_set_at]) ?_
          refine ez_iret dX11_saw_92 rfl rfl ?_
          have hJ : ∀ c, c ≠ 112 → c ≠ 126 → c ≠ 127 → c ≠ 128 → I12 c = I c := fun c g112 g126 g127 g128 => by rw [hI12, z_set_ne (by omega), hI11, z_set_ne (by omega), hI10, z_set_ne (by omega), hI9, z_set_ne (by omega), hI1, z_set_ne (by omega)]
          have hJf : ∀ k, k ≠ 9 → k ≠ 30 → I12 112 k = I 112 k := fun k g9 g30 => by rw [hI12, z_set_nk (by omega), hI11, z_set_ne (by decide), hI10, z_set_ne (by decide), hI9, z_set_ne (by decide), hI1, z_set_nk (by omega)]
          rw [show s_saw T w s v = (nI (T.sn.length + 1), (T.w_sn (T.sn ++ [(w, s, v)]))) from by unfold s_saw; rw [if_pos ⟨⟨by assumption, by assumption, by assumption⟩, hlt⟩]]
          exact ⟨rfl, _, _, _, rfl, ⟨hM.F, hM.ru, (by rw [(hJf 18 (by decide) (by decide)), (hJ 119 (by decide) (by decide) (by decide) (by decide))]; exact hM.rv), ⟨(hJf 6 (by decide) (by decide)).trans hM.tx.1, fun k hk => by rw [(hJ 116 (by decide) (by decide) (by decide) (by decide))]; exact hM.tx.2 k hk⟩, ⟨(hJf 8 (by decide) (by decide)).trans hM.rw.1, hM.rw.2⟩, (by rw [(hJ 114 (by decide) (by decide) (by decide) (by decide))]; exact hM.pr), ((hJf 4 (by decide) (by decide)).trans hM.wm), (by rw [(hJ 115 (by decide) (by decide) (by decide) (by decide))]; exact hM.wd), ((hJf 1 (by decide) (by decide)).trans hM.c), (by rw [(hJ 113 (by decide) (by decide) (by decide) (by decide))]; exact hM.x), (by rw [(hJf 22 (by decide) (by decide)), (hJ 122 (by decide) (by decide) (by decide) (by decide))]; exact hM.un), (by rw [(hJf 38 (by decide) (by decide)), (hJ 134 (by decide) (by decide) (by decide) (by decide)), (hJ 135 (by decide) (by decide) (by decide) (by decide)), (hJ 136 (by decide) (by decide) (by decide) (by decide))]; exact hM.kp), ⟨(by rw [hI12, z_set_at]; show nI (T.sn.length + 1) = nI (T.sn ++ [(w, s, v)]).length; simp), fun k q hk => (by rcases z_snoc hk with ⟨h1, h2⟩ | ⟨rfl, rfl⟩; exact ⟨(by rw [hI12, z_set_ne (by decide), hI11, z_set_ne (by decide), hI10, z_set_ne (by decide), hI9, z_set_nk (by omega), hI1, z_set_ne (by decide)]; exact (hM.sn.2 k q h2).1), (by rw [hI12, z_set_ne (by decide), hI11, z_set_ne (by decide), hI10, z_set_nk (by omega), hI9, z_set_ne (by decide), hI1, z_set_ne (by decide)]; exact (hM.sn.2 k q h2).2.1), (by rw [hI12, z_set_ne (by decide), hI11, z_set_nk (by omega), hI10, z_set_ne (by decide), hI9, z_set_ne (by decide), hI1, z_set_ne (by decide)]; exact (hM.sn.2 k q h2).2.2)⟩; exact ⟨(by rw [hI12, z_set_ne (by decide), hI11, z_set_ne (by decide), hI10, z_set_ne (by decide), hI9, z_set_at]), (by rw [hI12, z_set_ne (by decide), hI11, z_set_ne (by decide), hI10, z_set_at]), (by rw [hI12, z_set_ne (by decide), hI11, z_set_at])⟩)⟩, (by rw [(hJf 34 (by decide) (by decide)), (hJ 130 (by decide) (by decide) (by decide) (by decide)), (hJ 131 (by decide) (by decide) (by decide) (by decide))]; exact hM.hd)⟩, (by rw [hI12, z_set_nk (by decide), hI11, z_set_ne (by decide), hI10, z_set_ne (by decide), hI9, z_set_ne (by decide), hI1, z_set_at]), fun c hc => ⟨hJ c (by omega) (by omega) (by omega) (by omega), rfl, rfl⟩⟩
        · skip
          refine ez_iconst (v := (-1)) dX11_saw_46 (by decide) ?_
          refine ez_iret dX11_saw_47 rfl rfl ?_
          have hJ : ∀ c, c ≠ 112 → I1 c = I c := fun c g112 => by rw [hI1, z_set_ne (by omega)]
          have hJf : ∀ k, k ≠ 9 → I1 112 k = I 112 k := fun k g9 => by rw [hI1, z_set_nk (by omega)]
          rw [show s_saw T w s v = (-1, T) from by unfold s_saw; rw [if_neg (fun e => ?_)]; first | exact absurd e.1.1 (by assumption) | exact absurd e.1.2 (by assumption) | exact absurd e.1.2.1 (by assumption) | exact absurd e.1.2.2 (by assumption) | exact absurd e.2 (by rw [z_n10 (k := T.sn.length) (m := 10) (by assumption) (by have := hO.snl; omega) (by decide)]; omega)]
          exact ⟨rfl, _, _, _, rfl, ⟨hM.F, hM.ru, (by rw [(hJf 18 (by decide)), (hJ 119 (by decide))]; exact hM.rv), ⟨(hJf 6 (by decide)).trans hM.tx.1, fun k hk => by rw [(hJ 116 (by decide))]; exact hM.tx.2 k hk⟩, ⟨(hJf 8 (by decide)).trans hM.rw.1, hM.rw.2⟩, (by rw [(hJ 114 (by decide))]; exact hM.pr), ((hJf 4 (by decide)).trans hM.wm), (by rw [(hJ 115 (by decide))]; exact hM.wd), ((hJf 1 (by decide)).trans hM.c), (by rw [(hJ 113 (by decide))]; exact hM.x), (by rw [(hJf 22 (by decide)), (hJ 122 (by decide))]; exact hM.un), (by rw [(hJf 38 (by decide)), (hJ 134 (by decide)), (hJ 135 (by decide)), (hJ 136 (by decide))]; exact hM.kp), (by rw [(hJf 30 (by decide)), (hJ 126 (by decide)), (hJ 127 (by decide)), (hJ 128 (by decide))]; exact hM.sn), (by rw [(hJf 34 (by decide)), (hJ 130 (by decide)), (hJ 131 (by decide))]; exact hM.hd)⟩, (by rw [hI1, z_set_at]), fun c hc => ⟨hJ c (by omega), rfl, rfl⟩⟩
      · show ez_P _ _ _ _ _ _ 34 [(0, .ref 112), (1, .int w), (2, .int s), (3, .int v)] (.int 0 :: []) _ _
        refine ez_if_eq (tgt := 46) dX11_saw_34 (by decide) (fun c13 => ?_) (fun c13 => absurd (by decide) c13)
        refine ez_iconst (v := (-1)) dX11_saw_46 (by decide) ?_
        refine ez_iret dX11_saw_47 rfl rfl ?_
        have hJ : ∀ c, c ≠ 112 → I1 c = I c := fun c g112 => by rw [hI1, z_set_ne (by omega)]
        have hJf : ∀ k, k ≠ 9 → I1 112 k = I 112 k := fun k g9 => by rw [hI1, z_set_nk (by omega)]
        rw [show s_saw T w s v = (-1, T) from by unfold s_saw; rw [if_neg (fun e => ?_)]; first | exact absurd e.1.1 (by assumption) | exact absurd e.1.2 (by assumption) | exact absurd e.1.2.1 (by assumption) | exact absurd e.1.2.2 (by assumption) | exact absurd e.2 (by rw [z_n10 (k := T.sn.length) (m := 10) (by assumption) (by have := hO.snl; omega) (by decide)]; omega)]
        exact ⟨rfl, _, _, _, rfl, ⟨hM.F, hM.ru, (by rw [(hJf 18 (by decide)), (hJ 119 (by decide))]; exact hM.rv), ⟨(hJf 6 (by decide)).trans hM.tx.1, fun k hk => by rw [(hJ 116 (by decide))]; exact hM.tx.2 k hk⟩, ⟨(hJf 8 (by decide)).trans hM.rw.1, hM.rw.2⟩, (by rw [(hJ 114 (by decide))]; exact hM.pr), ((hJf 4 (by decide)).trans hM.wm), (by rw [(hJ 115 (by decide))]; exact hM.wd), ((hJf 1 (by decide)).trans hM.c), (by rw [(hJ 113 (by decide))]; exact hM.x), (by rw [(hJf 22 (by decide)), (hJ 122 (by decide))]; exact hM.un), (by rw [(hJf 38 (by decide)), (hJ 134 (by decide)), (hJ 135 (by decide)), (hJ 136 (by decide))]; exact hM.kp), (by rw [(hJf 30 (by decide)), (hJ 126 (by decide)), (hJ 127 (by decide)), (hJ 128 (by decide))]; exact hM.sn), (by rw [(hJf 34 (by decide)), (hJ 130 (by decide)), (hJ 131 (by decide))]; exact hM.hd)⟩, (by rw [hI1, z_set_at]), fun c hc => ⟨hJ c (by omega), rfl, rfl⟩⟩
    · show ez_P _ _ _ _ _ _ 23 [(0, .ref 112), (1, .int w), (2, .int s), (3, .int v)] (.int 0 :: []) _ _
      refine ez_if_eq (tgt := 46) dX11_saw_23 (by decide) (fun c14 => ?_) (fun c14 => absurd (by decide) c14)
      refine ez_iconst (v := (-1)) dX11_saw_46 (by decide) ?_
      refine ez_iret dX11_saw_47 rfl rfl ?_
      have hJ : ∀ c, c ≠ 112 → I1 c = I c := fun c g112 => by rw [hI1, z_set_ne (by omega)]
      have hJf : ∀ k, k ≠ 9 → I1 112 k = I 112 k := fun k g9 => by rw [hI1, z_set_nk (by omega)]
      rw [show s_saw T w s v = (-1, T) from by unfold s_saw; rw [if_neg (fun e => ?_)]; first | exact absurd e.1.1 (by assumption) | exact absurd e.1.2 (by assumption) | exact absurd e.1.2.1 (by assumption) | exact absurd e.1.2.2 (by assumption) | exact absurd e.2 (by rw [z_n10 (k := T.sn.length) (m := 10) (by assumption) (by have := hO.snl; omega) (by decide)]; omega)]
      exact ⟨rfl, _, _, _, rfl, ⟨hM.F, hM.ru, (by rw [(hJf 18 (by decide)), (hJ 119 (by decide))]; exact hM.rv), ⟨(hJf 6 (by decide)).trans hM.tx.1, fun k hk => by rw [(hJ 116 (by decide))]; exact hM.tx.2 k hk⟩, ⟨(hJf 8 (by decide)).trans hM.rw.1, hM.rw.2⟩, (by rw [(hJ 114 (by decide))]; exact hM.pr), ((hJf 4 (by decide)).trans hM.wm), (by rw [(hJ 115 (by decide))]; exact hM.wd), ((hJf 1 (by decide)).trans hM.c), (by rw [(hJ 113 (by decide))]; exact hM.x), (by rw [(hJf 22 (by decide)), (hJ 122 (by decide))]; exact hM.un), (by rw [(hJf 38 (by decide)), (hJ 134 (by decide)), (hJ 135 (by decide)), (hJ 136 (by decide))]; exact hM.kp), (by rw [(hJf 30 (by decide)), (hJ 126 (by decide)), (hJ 127 (by decide)), (hJ 128 (by decide))]; exact hM.sn), (by rw [(hJf 34 (by decide)), (hJ 130 (by decide)), (hJ 131 (by decide))]; exact hM.hd)⟩, (by rw [hI1, z_set_at]), fun c hc => ⟨hJ c (by omega), rfl, rfl⟩⟩
  · show ez_P _ _ _ _ _ _ 13 [(0, .ref 112), (1, .int w), (2, .int s), (3, .int v)] (.int 0 :: []) _ _
    refine ez_if_eq (tgt := 46) dX11_saw_13 (by decide) (fun c15 => ?_) (fun c15 => absurd (by decide) c15)
    refine ez_iconst (v := (-1)) dX11_saw_46 (by decide) ?_
    refine ez_iret dX11_saw_47 rfl rfl ?_
    have hJ : ∀ c, c ≠ 112 → I1 c = I c := fun c g112 => by rw [hI1, z_set_ne (by omega)]
    have hJf : ∀ k, k ≠ 9 → I1 112 k = I 112 k := fun k g9 => by rw [hI1, z_set_nk (by omega)]
    rw [show s_saw T w s v = (-1, T) from by unfold s_saw; rw [if_neg (fun e => ?_)]; first | exact absurd e.1.1 (by assumption) | exact absurd e.1.2 (by assumption) | exact absurd e.1.2.1 (by assumption) | exact absurd e.1.2.2 (by assumption) | exact absurd e.2 (by rw [z_n10 (k := T.sn.length) (m := 10) (by assumption) (by have := hO.snl; omega) (by decide)]; omega)]
    exact ⟨rfl, _, _, _, rfl, ⟨hM.F, hM.ru, (by rw [(hJf 18 (by decide)), (hJ 119 (by decide))]; exact hM.rv), ⟨(hJf 6 (by decide)).trans hM.tx.1, fun k hk => by rw [(hJ 116 (by decide))]; exact hM.tx.2 k hk⟩, ⟨(hJf 8 (by decide)).trans hM.rw.1, hM.rw.2⟩, (by rw [(hJ 114 (by decide))]; exact hM.pr), ((hJf 4 (by decide)).trans hM.wm), (by rw [(hJ 115 (by decide))]; exact hM.wd), ((hJf 1 (by decide)).trans hM.c), (by rw [(hJ 113 (by decide))]; exact hM.x), (by rw [(hJf 22 (by decide)), (hJ 122 (by decide))]; exact hM.un), (by rw [(hJf 38 (by decide)), (hJ 134 (by decide)), (hJ 135 (by decide)), (hJ 136 (by decide))]; exact hM.kp), (by rw [(hJf 30 (by decide)), (hJ 126 (by decide)), (hJ 127 (by decide)), (hJ 128 (by decide))]; exact hM.sn), (by rw [(hJf 34 (by decide)), (hJ 130 (by decide)), (hJ 131 (by decide))]; exact hM.hd)⟩, (by rw [hI1, z_set_at]), fun c hc => ⟨hJ c (by omega), rfl, rfl⟩⟩
theorem y_X11_heard {n : Nat} {sl : Nat × Nat} {kd : Nat → Nat × Nat} {I : Nat → Nat → Int32} {L : Nat → Nat → Int64} {Rf : Nat → Nat → Option Nat} (d : Nat) {T : zT} {H : Nat} (hM : zM n kd I L Rf T) (hO : zOk H T) (k v : Int32)  : zq mX11_heard (d + 20) [.ref 112, .int k, .int v] (n, sl, kd, I, L, Rf) (zpM n sl kd I L Rf (some (.int (s_heard T k v).1)) (s_heard T k v).2) := by
  intro f B
  refine ez_meth pn_X.2.2.2.2.2.2.2.2.2.2.2 (Nat.le_of_ble_eq_true rfl) ?_
  have hF := hM.F
  have hc7 := hO.c
  show ez_P _ _ _ _ _ _ 0 [(0, .ref 112), (1, .int k), (2, .int v)] [] (n, sl, kd, I, L, Rf) _
  refine ez_aload_n (i := 0) dX11_heard_0 rfl rfl ?_
  refine ez_iconst (v := 0) dX11_heard_1 (by decide) ?_
  refine ez_pI dX11_heard_2 plX11_89 (hF.lt (by decide)) (hF.lx (by decide)) (hF.kc (by decide) rfl) rfl rfl ?_
  refine ez_nmI (fun I1 hI1 => ?_)
  have hM1 : zM n kd I1 L Rf T := by rw [hI1]; exact hM.f9
  refine ez_iload_n (i := 1) dX11_heard_5 rfl rfl ?_
  refine ez_iconst (v := 0) dX11_heard_6 (by decide) ?_
  refine ez_iconst (v := 4) dX11_heard_7 (by decide) ?_
  refine ez_callS (M1 := mX11_in) (rest := []) dX11_heard_8 mlX11_98 msX11_in rfl (Nat.le_of_ble_eq_true rfl) rfl (zq_b (q_X11_in (d + 19) k 0 4) (n, sl, kd, I1, L, Rf)) eb_bok ?_
  rintro _ _ ⟨rfl, ⟨b2, rfl⟩ | ⟨b2, rfl⟩⟩
  · show ez_P _ _ _ _ _ _ 11 [(0, .ref 112), (1, .int k), (2, .int v)] (.int 1 :: []) _ _
    refine ez_if_eq (tgt := 35) dX11_heard_11 (by decide) (fun c3 => absurd c3 (by decide)) (fun c3 => ?_)
    refine ez_iload_n (i := 2) dX11_heard_14 rfl rfl ?_
    refine ez_iconst (v := 0) dX11_heard_15 (by decide) ?_
    refine ez_iload_n (i := 1) dX11_heard_16 rfl rfl ?_
    refine ez_callS (M1 := mX11_highOf) (rest := [.int 0, .int v]) dX11_heard_17 mlX11_343 msX11_highOf rfl (Nat.le_of_ble_eq_true rfl) rfl (zq_r (q_X11_highOf (d + 19) k) (n, sl, kd, I1, L, Rf)) eb_rok ?_
    rintro _ _ ⟨rfl, rfl⟩
    show ez_P _ _ _ _ _ _ 20 [(0, .ref 112), (1, .int k), (2, .int v)] (.int (z_hi k) :: [.int 0, .int v]) _ _
    refine ez_callS (M1 := mX11_in) (rest := []) dX11_heard_20 mlX11_98 msX11_in rfl (Nat.le_of_ble_eq_true rfl) rfl (zq_b (q_X11_in (d + 19) v 0 (z_hi k)) (n, sl, kd, I1, L, Rf)) eb_bok ?_
    rintro _ _ ⟨rfl, ⟨b4, rfl⟩ | ⟨b4, rfl⟩⟩
    · show ez_P _ _ _ _ _ _ 23 [(0, .ref 112), (1, .int k), (2, .int v)] (.int 1 :: []) _ _
      refine ez_if_eq (tgt := 35) dX11_heard_23 (by decide) (fun c5 => absurd c5 (by decide)) (fun c5 => ?_)
      refine ez_aload_n (i := 0) dX11_heard_26 rfl rfl ?_
      refine ez_getI dX11_heard_27 flX11_346 (hF.lt (by decide)) (hF.kc (by decide) rfl) ?_
      refine ez_topE (y := I 112 34) (by rw [hI1, z_set_nk (by decide)]) ?_
      refine ez_topE (y := nI T.hd.length) hM.hd.1 ?_
      refine ez_bipush (v := 12) dX11_heard_30 (by decide) ?_
      refine ez_icmp_ne (tgt := 37) dX11_heard_32 (by decide) (fun c6 => ?_) (fun c6 => ?_)
      · skip
        have hlt : T.hd.length < 12 := by have h1 := hO.hdl; have h2 : T.hd.length ≠ 12 := (fun e => absurd (show nI T.hd.length = 12 by rw [e]; rfl) (by assumption)); omega
        refine ez_aload_n (i := 0) dX11_heard_37 rfl rfl ?_
        refine ez_getR dX11_heard_38 flX11_67 (hF.lt (by decide)) (hF.kc (by decide) rfl) (hF.pt 123 rfl) ?_
        refine ez_aload_n (i := 0) dX11_heard_41 rfl rfl ?_
        refine ez_getI dX11_heard_42 flX11_346 (hF.lt (by decide)) (hF.kc (by decide) rfl) ?_
        refine ez_topE (y := I 112 34) (by rw [hI1, z_set_nk (by decide)]) ?_
        refine ez_topE (y := nI T.hd.length) hM.hd.1 ?_
        refine ez_iload_n (i := 1) dX11_heard_45 rfl rfl ?_
        refine ez_isN (k := T.hd.length) dX11_heard_46 (hF.lt (by decide)) (hF.lx (by decide)) (hF.ka (by decide) rfl) (by omega) (by decide) ?_
        refine ez_nmI (fun I7 hI7 => ?_)
        refine ez_aload_n (i := 0) dX11_heard_47 rfl rfl ?_
        refine ez_getR dX11_heard_48 flX11_70 (hF.lt (by decide)) (hF.kc (by decide) rfl) (hF.pt 124 rfl) ?_
        refine ez_aload_n (i := 0) dX11_heard_51 rfl rfl ?_
        refine ez_getI dX11_heard_52 flX11_346 (hF.lt (by decide)) (hF.kc (by decide) rfl) ?_
        refine ez_topE (y := I 112 34) (by rw [hI7, z_set_ne (by decide), hI1, z_set_nk (by decide)]) ?_
        refine ez_topE (y := nI T.hd.length) hM.hd.1 ?_
        refine ez_iload_n (i := 2) dX11_heard_55 rfl rfl ?_
        refine ez_isN (k := T.hd.length) dX11_heard_56 (hF.lt (by decide)) (hF.lx (by decide)) (hF.ka (by decide) rfl) (by omega) (by decide) ?_
        refine ez_nmI (fun I8 hI8 => ?_)
        refine ez_aload_n (i := 0) dX11_heard_57 rfl rfl ?_
        refine ez_dup dX11_heard_58 rfl ?_
        refine ez_getI dX11_heard_59 flX11_346 (hF.lt (by decide)) (hF.kc (by decide) rfl) ?_
        refine ez_topE (y := I 112 34) (by rw [hI8, z_set_ne (by decide), hI7, z_set_ne (by decide), hI1, z_set_nk (by decide)]) ?_
        refine ez_topE (y := nI T.hd.length) hM.hd.1 ?_
        refine ez_iconst (v := 1) dX11_heard_62 (by decide) ?_
        refine ez_iadd dX11_heard_63 ?_
        refine ez_topE (y := nI (T.hd.length + 1)) (nI_add _ _) ?_
        refine ez_pI dX11_heard_64 plX11_346 (hF.lt (by decide)) (hF.lx (by decide)) (hF.kc (by decide) rfl) rfl rfl ?_
        refine ez_nmI (fun I9 hI9 => ?_)
        refine ez_aload_n (i := 0) dX11_heard_67 rfl rfl ?_
        refine ez_getI dX11_heard_68 flX11_346 (hF.lt (by decide)) (hF.kc (by decide) rfl) ?_
        refine ez_topE (y := nI (T.hd.length + 1)) (by rw [hI9, z_set_at]) ?_
        refine ez_iret dX11_heard_71 rfl rfl ?_
        have hJ : ∀ c, c ≠ 112 → c ≠ 130 → c ≠ 131 → I9 c = I c := fun c g112 g130 g131 => by rw [hI9, z_set_ne (by omega), hI8, z_set_ne (by omega), hI7, z_set_ne (by omega), hI1, z_set_ne (by omega)]
        have hJf : ∀ k, k ≠ 9 → k ≠ 34 → I9 112 k = I 112 k := fun k g9 g34 => by rw [hI9, z_set_nk (by omega), hI8, z_set_ne (by decide), hI7, z_set_ne (by decide), hI1, z_set_nk (by omega)]
        rw [show s_heard T k v = (nI (T.hd.length + 1), (T.w_hd (T.hd ++ [(k, v)]))) from by unfold s_heard; rw [if_pos ⟨⟨by assumption, by assumption⟩, hlt⟩]]
        exact ⟨rfl, _, _, _, rfl, ⟨hM.F, hM.ru, (by rw [(hJf 18 (by decide) (by decide)), (hJ 119 (by decide) (by decide) (by decide))]; exact hM.rv), ⟨(hJf 6 (by decide) (by decide)).trans hM.tx.1, fun k hk => by rw [(hJ 116 (by decide) (by decide) (by decide))]; exact hM.tx.2 k hk⟩, ⟨(hJf 8 (by decide) (by decide)).trans hM.rw.1, hM.rw.2⟩, (by rw [(hJ 114 (by decide) (by decide) (by decide))]; exact hM.pr), ((hJf 4 (by decide) (by decide)).trans hM.wm), (by rw [(hJ 115 (by decide) (by decide) (by decide))]; exact hM.wd), ((hJf 1 (by decide) (by decide)).trans hM.c), (by rw [(hJ 113 (by decide) (by decide) (by decide))]; exact hM.x), (by rw [(hJf 22 (by decide) (by decide)), (hJ 122 (by decide) (by decide) (by decide))]; exact hM.un), (by rw [(hJf 38 (by decide) (by decide)), (hJ 134 (by decide) (by decide) (by decide)), (hJ 135 (by decide) (by decide) (by decide)), (hJ 136 (by decide) (by decide) (by decide))]; exact hM.kp), (by rw [(hJf 30 (by decide) (by decide)), (hJ 126 (by decide) (by decide) (by decide)), (hJ 127 (by decide) (by decide) (by decide)), (hJ 128 (by decide) (by decide) (by decide))]; exact hM.sn), ⟨(by rw [hI9, z_set_at]; show nI (T.hd.length + 1) = nI (T.hd ++ [(k, v)]).length; simp), fun k q hk => (by rcases z_snoc hk with ⟨h1, h2⟩ | ⟨rfl, rfl⟩; exact ⟨(by rw [hI9, z_set_ne (by decide), hI8, z_set_ne (by decide), hI7, z_set_nk (by omega), hI1, z_set_ne (by decide)]; exact (hM.hd.2 k q h2).1), (by rw [hI9, z_set_ne (by decide), hI8, z_set_nk (by omega), hI7, z_set_ne (by decide), hI1, z_set_ne (by decide)]; exact (hM.hd.2 k q h2).2)⟩; exact ⟨(by rw [hI9, z_set_ne (by decide), hI8, z_set_ne (by decide), hI7, z_set_at]), (by rw [hI9, z_set_ne (by decide), hI8, z_set_at])⟩)⟩⟩, (by rw [hI9, z_set_nk (by decide), hI8, z_set_ne (by decide), hI7, z_set_ne (by decide), hI1, z_set_at]), fun c hc => ⟨hJ c (by omega) (by omega) (by omega), rfl, rfl⟩⟩
      · skip
        refine ez_iconst (v := (-1)) dX11_heard_35 (by decide) ?_
        refine ez_iret dX11_heard_36 rfl rfl ?_
        have hJ : ∀ c, c ≠ 112 → I1 c = I c := fun c g112 => by rw [hI1, z_set_ne (by omega)]
        have hJf : ∀ k, k ≠ 9 → I1 112 k = I 112 k := fun k g9 => by rw [hI1, z_set_nk (by omega)]
        rw [show s_heard T k v = (-1, T) from by unfold s_heard; rw [if_neg (fun e => ?_)]; first | exact absurd e.1.1 (by assumption) | exact absurd e.1.2 (by assumption) | exact absurd e.1.2.1 (by assumption) | exact absurd e.1.2.2 (by assumption) | exact absurd e.2 (by rw [z_n10 (k := T.hd.length) (m := 12) (by assumption) (by have := hO.hdl; omega) (by decide)]; omega)]
        exact ⟨rfl, _, _, _, rfl, ⟨hM.F, hM.ru, (by rw [(hJf 18 (by decide)), (hJ 119 (by decide))]; exact hM.rv), ⟨(hJf 6 (by decide)).trans hM.tx.1, fun k hk => by rw [(hJ 116 (by decide))]; exact hM.tx.2 k hk⟩, ⟨(hJf 8 (by decide)).trans hM.rw.1, hM.rw.2⟩, (by rw [(hJ 114 (by decide))]; exact hM.pr), ((hJf 4 (by decide)).trans hM.wm), (by rw [(hJ 115 (by decide))]; exact hM.wd), ((hJf 1 (by decide)).trans hM.c), (by rw [(hJ 113 (by decide))]; exact hM.x), (by rw [(hJf 22 (by decide)), (hJ 122 (by decide))]; exact hM.un), (by rw [(hJf 38 (by decide)), (hJ 134 (by decide)), (hJ 135 (by decide)), (hJ 136 (by decide))]; exact hM.kp), (by rw [(hJf 30 (by decide)), (hJ 126 (by decide)), (hJ 127 (by decide)), (hJ 128 (by decide))]; exact hM.sn), (by rw [(hJf 34 (by decide)), (hJ 130 (by decide)), (hJ 131 (by decide))]; exact hM.hd)⟩, (by rw [hI1, z_set_at]), fun c hc => ⟨hJ c (by omega), rfl, rfl⟩⟩
    · show ez_P _ _ _ _ _ _ 23 [(0, .ref 112), (1, .int k), (2, .int v)] (.int 0 :: []) _ _
      refine ez_if_eq (tgt := 35) dX11_heard_23 (by decide) (fun c10 => ?_) (fun c10 => absurd (by decide) c10)
      refine ez_iconst (v := (-1)) dX11_heard_35 (by decide) ?_
      refine ez_iret dX11_heard_36 rfl rfl ?_
      have hJ : ∀ c, c ≠ 112 → I1 c = I c := fun c g112 => by rw [hI1, z_set_ne (by omega)]
      have hJf : ∀ k, k ≠ 9 → I1 112 k = I 112 k := fun k g9 => by rw [hI1, z_set_nk (by omega)]
      rw [show s_heard T k v = (-1, T) from by unfold s_heard; rw [if_neg (fun e => ?_)]; first | exact absurd e.1.1 (by assumption) | exact absurd e.1.2 (by assumption) | exact absurd e.1.2.1 (by assumption) | exact absurd e.1.2.2 (by assumption) | exact absurd e.2 (by rw [z_n10 (k := T.hd.length) (m := 12) (by assumption) (by have := hO.hdl; omega) (by decide)]; omega)]
      exact ⟨rfl, _, _, _, rfl, ⟨hM.F, hM.ru, (by rw [(hJf 18 (by decide)), (hJ 119 (by decide))]; exact hM.rv), ⟨(hJf 6 (by decide)).trans hM.tx.1, fun k hk => by rw [(hJ 116 (by decide))]; exact hM.tx.2 k hk⟩, ⟨(hJf 8 (by decide)).trans hM.rw.1, hM.rw.2⟩, (by rw [(hJ 114 (by decide))]; exact hM.pr), ((hJf 4 (by decide)).trans hM.wm), (by rw [(hJ 115 (by decide))]; exact hM.wd), ((hJf 1 (by decide)).trans hM.c), (by rw [(hJ 113 (by decide))]; exact hM.x), (by rw [(hJf 22 (by decide)), (hJ 122 (by decide))]; exact hM.un), (by rw [(hJf 38 (by decide)), (hJ 134 (by decide)), (hJ 135 (by decide)), (hJ 136 (by decide))]; exact hM.kp), (by rw [(hJf 30 (by decide)), (hJ 126 (by decide)), (hJ 127 (by decide)), (hJ 128 (by decide))]; exact hM.sn), (by rw [(hJf 34 (by decide)), (hJ 130 (by decide)), (hJ 131 (by decide))]; exact hM.hd)⟩, (by rw [hI1, z_set_at]), fun c hc => ⟨hJ c (by omega), rfl, rfl⟩⟩
  · show ez_P _ _ _ _ _ _ 11 [(0, .ref 112), (1, .int k), (2, .int v)] (.int 0 :: []) _ _
    refine ez_if_eq (tgt := 35) dX11_heard_11 (by decide) (fun c11 => ?_) (fun c11 => absurd (by decide) c11)
    refine ez_iconst (v := (-1)) dX11_heard_35 (by decide) ?_
    refine ez_iret dX11_heard_36 rfl rfl ?_
    have hJ : ∀ c, c ≠ 112 → I1 c = I c := fun c g112 => by rw [hI1, z_set_ne (by omega)]
    have hJf : ∀ k, k ≠ 9 → I1 112 k = I 112 k := fun k g9 => by rw [hI1, z_set_nk (by omega)]
    rw [show s_heard T k v = (-1, T) from by unfold s_heard; rw [if_neg (fun e => ?_)]; first | exact absurd e.1.1 (by assumption) | exact absurd e.1.2 (by assumption) | exact absurd e.1.2.1 (by assumption) | exact absurd e.1.2.2 (by assumption) | exact absurd e.2 (by rw [z_n10 (k := T.hd.length) (m := 12) (by assumption) (by have := hO.hdl; omega) (by decide)]; omega)]
    exact ⟨rfl, _, _, _, rfl, ⟨hM.F, hM.ru, (by rw [(hJf 18 (by decide)), (hJ 119 (by decide))]; exact hM.rv), ⟨(hJf 6 (by decide)).trans hM.tx.1, fun k hk => by rw [(hJ 116 (by decide))]; exact hM.tx.2 k hk⟩, ⟨(hJf 8 (by decide)).trans hM.rw.1, hM.rw.2⟩, (by rw [(hJ 114 (by decide))]; exact hM.pr), ((hJf 4 (by decide)).trans hM.wm), (by rw [(hJ 115 (by decide))]; exact hM.wd), ((hJf 1 (by decide)).trans hM.c), (by rw [(hJ 113 (by decide))]; exact hM.x), (by rw [(hJf 22 (by decide)), (hJ 122 (by decide))]; exact hM.un), (by rw [(hJf 38 (by decide)), (hJ 134 (by decide)), (hJ 135 (by decide)), (hJ 136 (by decide))]; exact hM.kp), (by rw [(hJf 30 (by decide)), (hJ 126 (by decide)), (hJ 127 (by decide)), (hJ 128 (by decide))]; exact hM.sn), (by rw [(hJf 34 (by decide)), (hJ 130 (by decide)), (hJ 131 (by decide))]; exact hM.hd)⟩, (by rw [hI1, z_set_at]), fun c hc => ⟨hJ c (by omega), rfl, rfl⟩⟩
