/-! the reference: thoughts, winds -/
theorem zp_sgn_w {hr : Nat → Int32} {m w : Int32} {p : Nat} (h : ¬ w = -1) : (zp_sgn hr m (p, w)).2 = (p + 1, w) := by
  unfold zp_sgn
  simp only
  rw [if_neg (fun g => h g.1), zp_one_w h]
theorem zM.prs {n : Nat} {kd : Nat → Nat × Nat} {I I1 : Nat → Nat → Int32} {L : Nat → Nat → Int64} {Rf : Nat → Nat → Option Nat} {T : zT} (h : zM n kd I L Rf T) {pr : Nat → Int32} (hp : ∀ t, t < 6 → I1 114 t = pr t) (hc : ∀ c, c ≠ 114 → I1 c = I c) : zM n kd I1 L Rf (T.w_pr pr) := by
  refine ⟨h.F, h.ru, ?_, ?_, ?_, hp, ?_, ?_, ?_, ?_, ?_, ?_, ?_, ?_⟩
  · rw [hc 112 (by decide), hc 119 (by decide)]; exact h.rv
  · rw [hc 112 (by decide), hc 116 (by decide)]; exact h.tx
  · rw [hc 112 (by decide)]; exact h.rw
  · rw [hc 112 (by decide)]; exact h.wm
  · rw [hc 115 (by decide)]; exact h.wd
  · rw [hc 112 (by decide)]; exact h.c
  · rw [hc 113 (by decide)]; exact h.x
  · rw [hc 112 (by decide), hc 122 (by decide)]; exact h.un
  · rw [hc 112 (by decide), hc 134 (by decide), hc 135 (by decide), hc 136 (by decide)]; exact h.kp
  · rw [hc 112 (by decide), hc 126 (by decide), hc 127 (by decide), hc 128 (by decide)]; exact h.sn
  · rw [hc 112 (by decide), hc 130 (by decide), hc 131 (by decide)]; exact h.hd
abbrev ztp (T : zT) : Nat → Int32 := fun q => T.tt q - 48
noncomputable def s_thoughts (T : zT) : Int32 × zT := if z_the (z_thf T.tt T.tx.length) = -1 then (z_sum (ztp T) 6, (T.w_tx []).w_pr (ztp T)) else (-1 - z_the (z_thf T.tt T.tx.length), T.w_tx [])
theorem s_thoughts_n {T : zT} {p : Nat} (hp : p < 1000) (h : z_thf T.tt T.tx.length (nI p)) : s_thoughts T = (-1 - nI p, T.w_tx []) := by
  unfold s_thoughts; rw [z_the_eq h z_thf_u, if_neg (nI_nm1 p (by omega))]
theorem s_thoughts_y {T : zT} (h : z_thf T.tt T.tx.length (-1)) : s_thoughts T = (z_sum (ztp T) 6, (T.w_tx []).w_pr (ztp T)) := by
  unfold s_thoughts; rw [z_the_eq h z_thf_u, if_pos rfl]
theorem z_bad1 {t : Nat → Int32} {q : Nat} : z_bad t 1 6 q ↔ q = 6 ∨ ¬ (48 ≤ t q ∧ t q ≤ 57) := by
  unfold z_bad
  rw [show z_ln 1 = 1 from rfl, Nat.mod_one, show z_ch 1 0 = 57 from by decide]
  unfold z_st
  constructor
  · rintro (h | h)
    · exact Or.inl h
    · exact Or.inr (fun g => h (Or.inl ⟨rfl, g⟩))
  · rintro (h | h)
    · exact Or.inl h
    · refine Or.inr (fun g => ?_)
      rcases g with ⟨_, g⟩ | ⟨g, _⟩ | ⟨g, _⟩ | ⟨g, _⟩ | ⟨g, _⟩
      · exact h g
      · exact absurd g (by decide)
      · exact absurd g (by decide)
      · exact absurd g (by decide)
      · exact absurd rfl g
abbrev zdg (v : Int32) : Prop := 48 ≤ v ∧ v ≤ 48 + 10 - 1
theorem zdg_i {v : Int32} : zdg v ↔ 48 ≤ v ∧ v ≤ 57 := by unfold zdg; rw [show (48 : Int32) + 10 - 1 = 57 from by decide]
theorem zdg_m : ¬ zdg (-1) := by decide
theorem z_len6 {n : Nat} {kd : Nat → Nat × Nat} {I : Nat → Nat → Int32} {L : Nat → Nat → Int64} {Rf : Nat → Nat → Option Nat} {T : zT} {H : Nat} (hM : zM n kd I L Rf T) (hO : zOk H T) (h : ∀ q, q < 6 → zdg (zhr (I 116) T.tx.length 6 q)) : 6 ≤ T.tx.length := by
  refine Nat.le_of_not_lt (fun g => ?_)
  have := h T.tx.length g
  rw [zM.hn (by omega)] at this
  exact zdg_m this
theorem z_thf_p {n : Nat} {kd : Nat → Nat × Nat} {I : Nat → Nat → Int32} {L : Nat → Nat → Int64} {Rf : Nat → Nat → Option Nat} {T : zT} {H p : Nat} (hM : zM n kd I L Rf T) (hO : zOk H T) (hp : p < 6) (h : ∀ q, q < p → zdg (zhr (I 116) T.tx.length 6 q)) (hn : ¬ zdg (zhr (I 116) T.tx.length 6 p)) : z_thf T.tt T.tx.length (nI p) := by
  have hl : p ≤ T.tx.length := Nat.le_of_not_lt (fun g => by have := h T.tx.length g; rw [zM.hn (by omega)] at this; exact zdg_m this)
  have hg : ∀ q, q < p → q < T.tx.length → ¬ z_bad T.tt 1 6 q := fun q h1 h2 => by
    rw [z_bad1]
    have := h q h1
    rw [hM.hr hO h2 (by omega), zdg_i] at this
    rintro (e | e)
    · omega
    · exact e this
  by_cases e : p < T.tx.length
  · refine ⟨nI p, Or.inl ⟨p, e, ?_, fun q hq => hg q hq (by omega), rfl⟩, ?_⟩
    · rw [z_bad1]; refine Or.inr ?_; rw [hM.hr hO e hp, zdg_i] at hn; exact hn
    · rw [if_neg (fun g => nI_nm1 p (by omega) g.1)]
  · have e2 : p = T.tx.length := by omega
    exact ⟨-1, Or.inr ⟨fun q hq => hg q (by omega) hq, rfl⟩, by rw [if_pos ⟨rfl, by omega⟩, e2]⟩
theorem z_thf_6 {n : Nat} {kd : Nat → Nat × Nat} {I : Nat → Nat → Int32} {L : Nat → Nat → Int64} {Rf : Nat → Nat → Option Nat} {T : zT} {H : Nat} (hM : zM n kd I L Rf T) (hO : zOk H T) (h : ∀ q, q < 6 → zdg (zhr (I 116) T.tx.length 6 q)) : (6 < T.tx.length → z_thf T.tt T.tx.length (nI 6)) ∧ (¬ 6 < T.tx.length → z_thf T.tt T.tx.length (-1)) := by
  have h6 := z_len6 hM hO h
  have hg : ∀ q, q < 6 → ¬ z_bad T.tt 1 6 q := fun q h1 => by
    rw [z_bad1]
    have := h q h1
    rw [hM.hr hO (by omega) h1, zdg_i] at this
    rintro (e | e)
    · omega
    · exact e this
  refine ⟨fun g => ⟨nI 6, Or.inl ⟨6, g, Or.inl rfl, hg, rfl⟩, by rw [if_neg (fun e => absurd e.1 (by decide))]⟩, fun g => ⟨-1, Or.inr ⟨fun q hq => hg q (by omega), rfl⟩, by rw [if_neg (fun e => absurd e.2 (by omega))]⟩⟩
theorem q_X11_thoughts {n : Nat} {sl : Nat × Nat} {kd : Nat → Nat × Nat} {I : Nat → Nat → Int32} {L : Nat → Nat → Int64} {Rf : Nat → Nat → Option Nat} (d : Nat) {T : zT} {H : Nat} (hM : zM n kd I L Rf T) (hO : zOk H T) : eb_Q mX11_thoughts (d + 20) [.ref 112] (n, sl, kd, I, L, Rf) (zpM n sl kd I L Rf (some (.int (s_thoughts T).1)) (s_thoughts T).2) := by
  have hF := hM.F; have hc7 := hO.c; have hx8 := hO.txl
  refine ep_meth pn_X.2.2.2.2.2.2.2.2.2.2.2 (Nat.le_of_ble_eq_true rfl) ?_
  show eb_P _ _ 0 [(0, .ref 112)] [] (n, sl, kd, I, L, Rf) _
  refine ep_aload_n (i := 0) dX11_thoughts_0 rfl rfl ?_
  refine ep_iconst (v := 0) dX11_thoughts_1 (by decide) ?_
  refine ep_pI dX11_thoughts_2 plX11_89 (hF.lt (by decide)) (hF.lx (by decide)) (hF.kc (by decide) rfl) rfl rfl ?_
  refine ep_nmI (fun I1 hI1 => ?_)
  subst hI1
  refine ep_aload_n (i := 0) dX11_thoughts_5 rfl rfl ?_
  refine ep_bipush (v := 6) dX11_thoughts_6 (by decide) ?_
  refine ep_callV (M1 := mX11_beginText) (rest := []) dX11_thoughts_8 mlX11_144 mvX11_beginText rfl (hF.lt (by decide)) (hF.kc (by decide) rfl) (Nat.le_of_ble_eq_true rfl) rfl (k_bt (I := I) (L := L) (d + 18) hM hO (tp := 6) (by decide)) (fun _ _ h => Or.inl (by obtain ⟨_, J, R1, h, _⟩ := h; rw [h])) ?_
  rintro _ _ ⟨rfl, J0, R1, rfl, hB⟩
  replace hF := hB.P.F
  show eb_P _ _ 11 [(0, .ref 112)] [] (n, sl, kd, (zpw J0 (0, -1)), L, R1) _
  refine ep_iconst (v := 0) dX11_thoughts_11 (by decide) ?_
  refine ep_istore_n (l' := [(1, .int 0), (0, .ref 112)]) dX11_thoughts_12 rfl (by decide) rfl ?_
  refine ep_eq (l2 := [(1, .int (nI 0)), (0, .ref 112)]) (σ2 := (n, sl, kd, zpw J0 (0, -1), L, R1)) rfl (by rw [nI_0]) rfl rfl ?_
  refine ep_for 6 (fun k (a : (Nat → Nat → Int32) × zps) => ([(1, .int (nI k)), (0, .ref 112)], (n, sl, kd, zpw a.1 a.2, L, R1))) (fun k a => zB n kd I Rf T 6 a.1 R1 ∧ ((a.2 = (k, -1) ∧ ∀ q, q < k → zdg ((zhr (I 116) T.tx.length 6) q) ∧ a.1 118 q = (zhr (I 116) T.tx.length 6) q - 48) ∨ ∃ p, p < k ∧ a.2 = (p, nI p) ∧ (∀ q, q < p → zdg ((zhr (I 116) T.tx.length 6) q)) ∧ ¬ zdg ((zhr (I 116) T.tx.length 6) p))) ?_ ?_ 6 0 (J0, (0, -1)) (by omega) ⟨hB, Or.inl ⟨rfl, fun q hq => absurd hq (Nat.not_lt_zero q)⟩⟩
  · rintro k ⟨Ja, sa⟩ hk ⟨hBa, ⟨hsa, hgo⟩ | ⟨p, hp1, hsa, hgo, hno⟩⟩ ih
    · replace hsa : sa = (k, -1) := hsa; subst hsa; replace hBa : zB n kd I Rf T 6 Ja R1 := hBa
      replace hgo : ∀ q, q < k → zdg ((zhr (I 116) T.tx.length 6) q) ∧ Ja 118 q = (zhr (I 116) T.tx.length 6) q - 48 := hgo
      show eb_P _ _ 13 [(1, .int (nI k)), (0, .ref 112)] [] (n, sl, kd, (zpw Ja (k, -1)), L, R1) _
      refine ep_iload_n (i := 1) dX11_thoughts_13 rfl rfl ?_
      refine ep_bipush (v := 6) dX11_thoughts_14 (by decide) ?_
      refine ep_icmp_ge (tgt := 46) dX11_thoughts_16 (by decide) (fun c2 => absurd c2 (nI_ge (b := 6) hk (by decide))) (fun c2 => ?_)
      refine ep_aload_n (i := 0) dX11_thoughts_19 rfl rfl ?_
      refine ep_callV (M1 := mX11_fine) (rest := []) dX11_thoughts_20 mlX11_124 mvX11_fine rfl (hF.lt (by decide)) (hF.kc (by decide) rfl) (Nat.le_of_ble_eq_true rfl) rfl (eb_b1 rfl  (q_X11_fine (I := Ja) (L := L) (d + 19) hBa.P (s := (k, -1)) (show k < 1000 by omega))) eb_rok ?_
      rintro _ _ ⟨rfl, rfl⟩
      show eb_P _ _ 23 [(1, .int (nI k)), (0, .ref 112)] (.int 1 :: []) _ _
      refine ep_if_eq (tgt := 46) dX11_thoughts_23 (by decide) (fun c3 => absurd c3 (by decide)) (fun c3 => ?_)
      refine ep_aload_n (i := 0) dX11_thoughts_26 rfl rfl ?_
      refine ep_getR dX11_thoughts_27 flX11_31 (hF.lt (by decide)) (hF.kc (by decide) rfl) (hF.pt 112 rfl) ?_
      refine ep_iload_n (i := 1) dX11_thoughts_30 rfl rfl ?_
      refine ep_aload_n (i := 0) dX11_thoughts_31 rfl rfl ?_
      refine ep_bipush (v := 48) dX11_thoughts_32 (by decide) ?_
      refine ep_bipush (v := 10) dX11_thoughts_34 (by decide) ?_
      refine ep_callV (M1 := mX11_oneOf) (rest := [.int (nI k), .ref 118]) dX11_thoughts_36 mlX11_140 mvX11_oneOf rfl (hF.lt (by decide)) (hF.kc (by decide) rfl) (Nat.le_of_ble_eq_true rfl) rfl (q_X11_oneOf (I := Ja) (L := L) (d + 17) hBa.P (s := (k, -1)) (show k < 1000 by omega) (a := 48) (k := 10) (by decide) z_hk10) (fun _ _ g => Or.inl (by rw [g.1])) ?_
      rintro _ _ ⟨rfl, rfl⟩
      by_cases hd4 : 48 ≤ (zhr (I 116) T.tx.length 6) k ∧ (zhr (I 116) T.tx.length 6) k ≤ 48 + 10 - 1
      · rw [zp_one_y hd4]
        show eb_P _ _ 39 [(1, .int (nI k)), (0, .ref 112)] (.int ((zhr (I 116) T.tx.length 6) k - 48) :: [.int (nI k), .ref 118]) (n, sl, kd, (zpw Ja (k + 1, -1)), L, R1) _
        refine ep_isN (k := k) dX11_thoughts_39 (hF.lt (by decide)) (hF.lx (by decide)) (hF.ka (by decide) rfl) (by omega) (by decide) ?_
        refine ep_eq (σ2 := (n, sl, kd, zpw (z_set Ja 118 k ((zhr (I 116) T.tx.length 6) k - 48)) (k + 1, -1), L, R1)) rfl rfl rfl (by rw [zpw_st (by decide)]) ?_
        have hB5 : zB n kd I Rf T 6 (z_set Ja 118 k ((zhr (I 116) T.tx.length 6) k - 48)) R1 := hBa.st (by decide)
        refine ep_iinc (v := (nI (k + 1))) (l' := [(1, .int ((nI (k + 1)))), (0, .ref 112)]) dX11_thoughts_40 rfl (nI_1 _) (by decide) rfl ?_
        refine ep_goto (tgt := 13) dX11_thoughts_43 (by decide) ?_
        exact ep_eq (l2 := [(1, .int (nI (k + 1))), (0, .ref 112)]) rfl rfl rfl rfl (ih ((z_set Ja 118 k ((zhr (I 116) T.tx.length 6) k - 48)), (k + 1, -1)) ⟨hB5, Or.inl ⟨rfl, fun q hq => by show zdg _ ∧ (z_set Ja 118 k ((zhr (I 116) T.tx.length 6) k - 48)) 118 q = _; by_cases e : q = k; rw [e]; exact ⟨hd4, z_set_at⟩; rw [z_set_nk e]; exact hgo q (by omega)⟩⟩)
      · rw [zp_one_n hd4]
        show eb_P _ _ 39 [(1, .int (nI k)), (0, .ref 112)] (.int 0 :: [.int (nI k), .ref 118]) (n, sl, kd, (zpw Ja (k, nI k)), L, R1) _
        refine ep_isN (k := k) dX11_thoughts_39 (hF.lt (by decide)) (hF.lx (by decide)) (hF.ka (by decide) rfl) (by omega) (by decide) ?_
        refine ep_eq (σ2 := (n, sl, kd, zpw (z_set Ja 118 k 0) (k, nI k), L, R1)) rfl rfl rfl (by rw [zpw_st (by decide)]) ?_
        have hB6 : zB n kd I Rf T 6 (z_set Ja 118 k 0) R1 := hBa.st (by decide)
        refine ep_iinc (v := (nI (k + 1))) (l' := [(1, .int ((nI (k + 1)))), (0, .ref 112)]) dX11_thoughts_40 rfl (nI_1 _) (by decide) rfl ?_
        refine ep_goto (tgt := 13) dX11_thoughts_43 (by decide) ?_
        exact ep_eq (l2 := [(1, .int (nI (k + 1))), (0, .ref 112)]) rfl rfl rfl rfl (ih ((z_set Ja 118 k 0), (k, nI k)) ⟨hB6, Or.inr ⟨k, by omega, rfl, fun q hq => (hgo q hq).1, hd4⟩⟩)
    · replace hsa : sa = (p, nI p) := hsa; subst hsa; replace hBa : zB n kd I Rf T 6 Ja R1 := hBa
      show eb_P _ _ 13 [(1, .int (nI k)), (0, .ref 112)] [] (n, sl, kd, (zpw Ja (p, nI p)), L, R1) _
      refine ep_iload_n (i := 1) dX11_thoughts_13 rfl rfl ?_
      refine ep_bipush (v := 6) dX11_thoughts_14 (by decide) ?_
      refine ep_icmp_ge (tgt := 46) dX11_thoughts_16 (by decide) (fun c7 => absurd c7 (nI_ge (b := 6) hk (by decide))) (fun c7 => ?_)
      refine ep_aload_n (i := 0) dX11_thoughts_19 rfl rfl ?_
      refine ep_callV (M1 := mX11_fine) (rest := []) dX11_thoughts_20 mlX11_124 mvX11_fine rfl (hF.lt (by decide)) (hF.kc (by decide) rfl) (Nat.le_of_ble_eq_true rfl) rfl (eb_b0 (nI_nm1 _ (by omega)) (q_X11_fine (I := Ja) (L := L) (d + 19) hBa.P (s := (p, nI p)) (show p < 1000 by omega))) eb_rok ?_
      rintro _ _ ⟨rfl, rfl⟩
      show eb_P _ _ 23 [(1, .int (nI k)), (0, .ref 112)] (.int 0 :: []) _ _
      refine ep_if_eq (tgt := 46) dX11_thoughts_23 (by decide) (fun c8 => ?_) (fun c8 => absurd (by decide) c8)
      refine ep_aload_n (i := 0) dX11_thoughts_46 rfl rfl ?_
      refine ep_callV (M1 := mX11_wasRight) (rest := []) dX11_thoughts_47 mlX11_147 mvX11_wasRight rfl (hF.lt (by decide)) (hF.kc (by decide) rfl) (Nat.le_of_ble_eq_true rfl) rfl (q_X11_wasRight (I := Ja) (L := L) (d + 17) hBa.P (s := (p, nI p)) (show p < 1000 by omega)) (fun _ _ g => Or.inl (by rw [g.1])) ?_
      rw [zp_end_b (s := (p, nI p)) (p := p) rfl (by omega)]
      rintro _ _ ⟨rfl, ⟨hbad, rfl⟩ | ⟨_, rfl⟩⟩
      · exact absurd hbad (nI_nm1 _ (by omega))
      show eb_P _ _ 50 [(1, .int (nI k)), (0, .ref 112)] (.int 0 :: []) (n, sl, kd, (zpw Ja (p, nI p)), L, R1) _
      refine ep_if_ne (tgt := 60) dX11_thoughts_50 (by decide) (fun c9 => absurd c9 (by decide)) (fun c9 => ?_)
      refine ep_iconst (v := (-1)) dX11_thoughts_53 (by decide) ?_
      refine ep_aload_n (i := 0) dX11_thoughts_54 rfl rfl ?_
      refine ep_getI dX11_thoughts_55 flX11_117 (hF.lt (by decide)) (hF.kc (by decide) rfl) ?_
      refine ep_topE (y := nI p) zpw_14 ?_
      refine ep_isub dX11_thoughts_58 ?_
      refine ep_iret dX11_thoughts_59 rfl rfl ?_
      rw [s_thoughts_n (by omega) (z_thf_p hM hO (by omega) hgo hno)]
      exact hBa.no hM _
  · rintro ⟨Ja, sa⟩ ⟨hBa, ⟨hsa, hgo⟩ | ⟨p, hp1, hsa, hgo, hno⟩⟩
    · replace hsa : sa = (6, -1) := hsa; subst hsa; replace hBa : zB n kd I Rf T 6 Ja R1 := hBa
      replace hgo : ∀ q, q < 6 → zdg ((zhr (I 116) T.tx.length 6) q) ∧ Ja 118 q = (zhr (I 116) T.tx.length 6) q - 48 := hgo
      show eb_P _ _ 13 [(1, .int (nI 6)), (0, .ref 112)] [] (n, sl, kd, (zpw Ja (6, -1)), L, R1) _
      refine ep_iload_n (i := 1) dX11_thoughts_13 rfl rfl ?_
      refine ep_bipush (v := 6) dX11_thoughts_14 (by decide) ?_
      refine ep_icmp_ge (tgt := 46) dX11_thoughts_16 (by decide) (fun c10 => ?_) (fun c10 => absurd (by decide) c10)
      refine ep_aload_n (i := 0) dX11_thoughts_46 rfl rfl ?_
      refine ep_callV (M1 := mX11_wasRight) (rest := []) dX11_thoughts_47 mlX11_147 mvX11_wasRight rfl (hF.lt (by decide)) (hF.kc (by decide) rfl) (Nat.le_of_ble_eq_true rfl) rfl (q_X11_wasRight (I := Ja) (L := L) (d + 17) hBa.P (s := (6, -1)) (show 6 < 1000 by omega)) (fun _ _ g => Or.inl (by rw [g.1])) ?_
      by_cases hl11 : 6 < T.tx.length
      · rw [show zp_end T.tx.length (6, -1) = (6, nI 6) from if_pos hl11]
        rintro _ _ ⟨rfl, ⟨hbad, rfl⟩ | ⟨_, rfl⟩⟩
        · exact absurd hbad (nI_nm1 _ (by omega))
        show eb_P _ _ 50 [(1, .int (nI 6)), (0, .ref 112)] (.int 0 :: []) (n, sl, kd, (zpw Ja (6, nI 6)), L, R1) _
        refine ep_if_ne (tgt := 60) dX11_thoughts_50 (by decide) (fun c12 => absurd c12 (by decide)) (fun c12 => ?_)
        refine ep_iconst (v := (-1)) dX11_thoughts_53 (by decide) ?_
        refine ep_aload_n (i := 0) dX11_thoughts_54 rfl rfl ?_
        refine ep_getI dX11_thoughts_55 flX11_117 (hF.lt (by decide)) (hF.kc (by decide) rfl) ?_
        refine ep_topE (y := nI 6) zpw_14 ?_
        refine ep_isub dX11_thoughts_58 ?_
        refine ep_iret dX11_thoughts_59 rfl rfl ?_
        rw [s_thoughts_n (p := 6) (by omega) ((z_thf_6 hM hO (fun q hq => (hgo q hq).1)).1 hl11)]
        exact hBa.no hM _
      · rw [show zp_end T.tx.length (6, -1) = (6, -1) from if_neg hl11]
        rintro _ _ ⟨rfl, ⟨_, rfl⟩ | ⟨hbad, rfl⟩⟩
        rotate_left
        · exact absurd rfl hbad
        show eb_P _ _ 50 [(1, .int (nI 6)), (0, .ref 112)] (.int 1 :: []) (n, sl, kd, (zpw Ja (6, -1)), L, R1) _
        refine ep_if_ne (tgt := 60) dX11_thoughts_50 (by decide) (fun c13 => ?_) (fun c13 => absurd (by decide) c13)
        refine ep_iconst (v := 0) dX11_thoughts_60 (by decide) ?_
        refine ep_istore_n (l' := [(1, .int 0), (0, .ref 112)]) dX11_thoughts_61 rfl (by decide) rfl ?_
        refine ep_iconst (v := 0) dX11_thoughts_62 (by decide) ?_
        refine ep_istore_n (l' := [(2, .int 0), (1, .int 0), (0, .ref 112)]) dX11_thoughts_63 rfl (by decide) rfl ?_
        have h66 : T.tx.length = 6 := by have := z_len6 hM hO (fun q hq => (hgo q hq).1); omega
        have hpr : ∀ q, q < 6 → Ja 118 q = ztp T q := fun q hq => by rw [(hgo q hq).2, hM.hr hO (by omega) hq]
        refine ep_eq (l2 := [(2, .int (nI 0)), (1, .int 0), (0, .ref 112)]) (σ2 := (n, sl, kd, zpw Ja (6, -1), L, R1)) rfl (by rw [nI_0]) rfl rfl ?_
        refine ep_for 6 (fun k (a : (Nat → Nat → Int32) × Int32) => ([(2, .int (nI k)), (1, .int a.2), (0, .ref 112)], (n, sl, kd, a.1, L, R1))) (fun k a => (∀ c, c ≠ 114 → a.1 c = zpw Ja (6, -1) c) ∧ (∀ q, q < k → a.1 114 q = ztp T q) ∧ a.2 = z_sum (ztp T) k) ?_ ?_ 6 0 (zpw Ja (6, -1), 0) (by omega) ⟨fun _ _ => rfl, fun q hq => absurd hq (Nat.not_lt_zero q), rfl⟩
        · rintro k ⟨Ka, su⟩ hk2 ⟨hKa, hKb, hsu⟩ ih2
          replace hKa : ∀ c, c ≠ 114 → Ka c = zpw Ja (6, -1) c := hKa; replace hKb : ∀ q, q < k → Ka 114 q = ztp T q := hKb; replace hsu : su = z_sum (ztp T) k := hsu
          show eb_P _ _ 64 [(2, .int (nI k)), (1, .int su), (0, .ref 112)] [] (n, sl, kd, Ka, L, R1) _
          refine ep_iload_n (i := 2) dX11_thoughts_64 rfl rfl ?_
          refine ep_bipush (v := 6) dX11_thoughts_65 (by decide) ?_
          refine ep_icmp_ge (tgt := 97) dX11_thoughts_67 (by decide) (fun c14 => absurd c14 (nI_ge (b := 6) hk2 (by decide))) (fun c14 => ?_)
          refine ep_aload_n (i := 0) dX11_thoughts_70 rfl rfl ?_
          refine ep_getR dX11_thoughts_71 flX11_13 (hF.lt (by decide)) (hF.kc (by decide) rfl) (hF.pt 108 rfl) ?_
          refine ep_iload_n (i := 2) dX11_thoughts_74 rfl rfl ?_
          refine ep_aload_n (i := 0) dX11_thoughts_75 rfl rfl ?_
          refine ep_getR dX11_thoughts_76 flX11_31 (hF.lt (by decide)) (hF.kc (by decide) rfl) (hF.pt 112 rfl) ?_
          refine ep_iload_n (i := 2) dX11_thoughts_79 rfl rfl ?_
          refine ep_iaN (k := k) dX11_thoughts_80 (hF.lt (by decide)) (hF.ka (by decide) rfl) (by omega) (by decide) ?_
          refine ep_topE (y := ztp T k) (by rw [hKa 118 (by decide), zpw_ne (by decide)]; exact hpr k hk2) ?_
          refine ep_isN (k := k) dX11_thoughts_81 (hF.lt (by decide)) (hF.lx (by decide)) (hF.ka (by decide) rfl) (by omega) (by decide) ?_
          refine ep_nmI (fun I15 hI15 => ?_)
          refine ep_iload_n (i := 1) dX11_thoughts_82 rfl rfl ?_
          refine ep_aload_n (i := 0) dX11_thoughts_83 rfl rfl ?_
          refine ep_getR dX11_thoughts_84 flX11_13 (hF.lt (by decide)) (hF.kc (by decide) rfl) (hF.pt 108 rfl) ?_
          refine ep_iload_n (i := 2) dX11_thoughts_87 rfl rfl ?_
          refine ep_iaN (k := k) dX11_thoughts_88 (hF.lt (by decide)) (hF.ka (by decide) rfl) (by omega) (by decide) ?_
          refine ep_topE (y := ztp T k) (by rw [hI15, z_set_at]) ?_
          refine ep_iadd dX11_thoughts_89 ?_
          refine ep_istore_n (l' := [(1, .int (su + (ztp T k))), (2, .int (nI k)), (0, .ref 112)]) dX11_thoughts_90 rfl (by decide) rfl ?_
          refine ep_iinc (v := (nI (k + 1))) (l' := [(2, .int ((nI (k + 1)))), (1, .int (su + (ztp T k))), (0, .ref 112)]) dX11_thoughts_91 rfl (nI_1 _) (by decide) rfl ?_
          refine ep_goto (tgt := 64) dX11_thoughts_94 (by decide) ?_
          exact ep_eq (l2 := [(2, .int (nI (k + 1))), (1, .int (su + (ztp T k))), (0, .ref 112)]) rfl rfl rfl rfl (ih2 (I15, su + (ztp T k)) ⟨fun c hc => by show I15 c = _; rw [hI15, z_set_ne hc]; exact hKa c hc, fun q hq => by show I15 114 q = _; rw [hI15]; by_cases e : q = k; rw [e, z_set_at]; rw [z_set_nk e]; exact hKb q (by omega), by show su + (ztp T k) = z_sum (ztp T) (k + 1); rw [z_sum, ← hsu]⟩)
        · rintro ⟨Ka, su⟩ ⟨hKa, hKb, hsu⟩
          replace hKa : ∀ c, c ≠ 114 → Ka c = zpw Ja (6, -1) c := hKa; replace hKb : ∀ q, q < 6 → Ka 114 q = ztp T q := hKb; replace hsu : su = z_sum (ztp T) 6 := hsu
          show eb_P _ _ 64 [(2, .int (nI 6)), (1, .int su), (0, .ref 112)] [] (n, sl, kd, Ka, L, R1) _
          refine ep_iload_n (i := 2) dX11_thoughts_64 rfl rfl ?_
          refine ep_bipush (v := 6) dX11_thoughts_65 (by decide) ?_
          refine ep_icmp_ge (tgt := 97) dX11_thoughts_67 (by decide) (fun c16 => ?_) (fun c16 => absurd (by decide) c16)
          refine ep_iload_n (i := 1) dX11_thoughts_97 rfl rfl ?_
          refine ep_iret dX11_thoughts_98 rfl rfl ?_
          have hz := s_thoughts_y ((z_thf_6 hM hO (fun q hq => (hgo q hq).1)).2 (by omega))
          rw [hz, show su = z_sum (ztp T) 6 from hsu]
          exact ⟨rfl, Ka, L, R1, rfl, (hBa.fin hM (6, -1)).prs hKb hKa, by rw [hKa 112 (by decide)]; exact (hBa.fr (L := L) _).1, fun c hc => by rw [hKa c (by omega)]; exact (hBa.fr _).2 c hc⟩
    · replace hsa : sa = (p, nI p) := hsa; subst hsa; replace hBa : zB n kd I Rf T 6 Ja R1 := hBa
      show eb_P _ _ 13 [(1, .int (nI 6)), (0, .ref 112)] [] (n, sl, kd, (zpw Ja (p, nI p)), L, R1) _
      refine ep_iload_n (i := 1) dX11_thoughts_13 rfl rfl ?_
      refine ep_bipush (v := 6) dX11_thoughts_14 (by decide) ?_
      refine ep_icmp_ge (tgt := 46) dX11_thoughts_16 (by decide) (fun c17 => ?_) (fun c17 => absurd (by decide) c17)
      refine ep_aload_n (i := 0) dX11_thoughts_46 rfl rfl ?_
      refine ep_callV (M1 := mX11_wasRight) (rest := []) dX11_thoughts_47 mlX11_147 mvX11_wasRight rfl (hF.lt (by decide)) (hF.kc (by decide) rfl) (Nat.le_of_ble_eq_true rfl) rfl (q_X11_wasRight (I := Ja) (L := L) (d + 17) hBa.P (s := (p, nI p)) (show p < 1000 by omega)) (fun _ _ g => Or.inl (by rw [g.1])) ?_
      rw [zp_end_b (s := (p, nI p)) (p := p) rfl (by omega)]
      rintro _ _ ⟨rfl, ⟨hbad, rfl⟩ | ⟨_, rfl⟩⟩
      · exact absurd hbad (nI_nm1 _ (by omega))
      show eb_P _ _ 50 [(1, .int (nI 6)), (0, .ref 112)] (.int 0 :: []) (n, sl, kd, (zpw Ja (p, nI p)), L, R1) _
      refine ep_if_ne (tgt := 60) dX11_thoughts_50 (by decide) (fun c18 => absurd c18 (by decide)) (fun c18 => ?_)
      refine ep_iconst (v := (-1)) dX11_thoughts_53 (by decide) ?_
      refine ep_aload_n (i := 0) dX11_thoughts_54 rfl rfl ?_
      refine ep_getI dX11_thoughts_55 flX11_117 (hF.lt (by decide)) (hF.kc (by decide) rfl) ?_
      refine ep_topE (y := nI p) zpw_14 ?_
      refine ep_isub dX11_thoughts_58 ?_
      refine ep_iret dX11_thoughts_59 rfl rfl ?_
      rw [s_thoughts_n (by omega) (z_thf_p hM hO (by omega) hgo hno)]
      exact hBa.no hM _
theorem y_X11_thoughts {n : Nat} {sl : Nat × Nat} {kd : Nat → Nat × Nat} {I : Nat → Nat → Int32} {L : Nat → Nat → Int64} {Rf : Nat → Nat → Option Nat} (d : Nat) {T : zT} {H : Nat} (hM : zM n kd I L Rf T) (hO : zOk H T) : zq mX11_thoughts (d + 20) [.ref 112] (n, sl, kd, I, L, Rf) (zpM n sl kd I L Rf (some (.int (s_thoughts T).1)) (s_thoughts T).2) := zq_of_M hM (fun I7 R7 h => q_X11_thoughts d h hO)
