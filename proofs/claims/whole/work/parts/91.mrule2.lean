/-! the reference: rule -/
theorem zhr_cg {t t2 : Nat → Int32} {n tp : Nat} (h : ∀ k, k < n → t k = t2 k) : zhr t n tp = zhr t2 n tp := by
  funext p; unfold zhr
  by_cases e : p < n ∧ p < tp
  · rw [if_pos e, if_pos e, h p e.1]
  · rw [if_neg e, if_neg e]
theorem zrd_cg {t t2 : Nat → Int32} {n : Nat} (h : ∀ k, k < n → t k = t2 k) : zrdM t n = zrdM t2 n := by unfold zrdM; rw [zhr_cg h]
theorem zrv_cg {t t2 : Nat → Int32} {n : Nat} (h : ∀ k, k < n → t k = t2 k) : zrvM t n = zrvM t2 n := by funext th; unfold zrvM; rw [zhr_cg h]
theorem zrd_40 {t : Nat → Int32} {n : Nat} (h : zrdM t n = -1) : n ≤ 40 := by
  rw [← zrd_e] at h
  have h40 := zrS_b (t := t) (n := n)
  unfold zp_end at h
  by_cases e : (zrS t n).1 < n
  · rw [if_pos e] at h
    unfold zp_fault at h
    by_cases e2 : (zrS t n).2 = -1
    · rw [if_pos e2] at h; exact absurd h (nI_nm1 _ (by omega))
    · rw [if_neg e2] at h; exact absurd h e2
  · omega
/-- the text's bytes -/
def ztby (T : zT) : Nat → Int32 := fun k => (T.tx.getD k 0).toInt8.toInt32
theorem zM.tb {n : Nat} {kd : Nat → Nat × Nat} {I : Nat → Nat → Int32} {L : Nat → Nat → Int64} {Rf : Nat → Nat → Option Nat} {T : zT} (h : zM n kd I L Rf T) : ∀ k, k < T.tx.length → I 116 k = ztby T k := h.tx.2
def s_rule (T : zT) : Int32 × zT := if zrdM (ztby T) T.tx.length = -1 then (0, (T.w_tx []).w_rv (zrvM (ztby T) T.tx.length)) else (-1 - zrdM (ztby T) T.tx.length, T.w_tx [])
theorem zB.fin9 {n : Nat} {kd : Nat → Nat × Nat} {I J : Nat → Nat → Int32} {L : Nat → Nat → Int64} {Rf R1 : Nat → Nat → Option Nat} {T : zT} {tp : Nat} (h : zB n kd I Rf T tp J R1) (hM : zM n kd I L Rf T) (s : zps) : zM n kd (zpw (z_set J 112 19 0) s) L R1 (T.w_tx []) := by
  rw [← zpw_19]
  exact (h.fin hM s).fr h.P.F (fun c h1 _ _ _ _ _ _ _ _ _ => z_set_ne h1) (fun k hk => z_set_nk (by omega)) rfl rfl
theorem zB.fr9 {n : Nat} {kd : Nat → Nat × Nat} {I J : Nat → Nat → Int32} {L : Nat → Nat → Int64} {Rf R1 : Nat → Nat → Option Nat} {T : zT} {tp : Nat} (h : zB n kd I Rf T tp J R1) (s : zps) : (zpw (z_set J 112 19 0) s 112 9 = 0) ∧ ∀ c, c < 112 ∨ 136 < c → zpw (z_set J 112 19 0) s c = I c ∧ L c = L c ∧ R1 c = Rf c := by
  rw [← zpw_19]
  exact ⟨by rw [z_set_nk (by decide)]; exact (h.fr (L := L) s).1, fun c hc => by rw [z_set_ne (by omega)]; exact (h.fr s).2 c hc⟩
theorem zM.rul {n : Nat} {kd : Nat → Nat × Nat} {I I1 : Nat → Nat → Int32} {L : Nat → Nat → Int64} {Rf : Nat → Nat → Option Nat} {T : zT} (h : zM n kd I L Rf T) {ns : Nat} {tb : Nat → Int32} (hn : ns ≤ 40) (h18 : I1 112 18 = nI ns) (h119 : ∀ q, q < ns → I1 119 q = tb q) (hb : ∀ q, q < ns → ∃ v, v < 256 ∧ tb q = (nI v).toInt8.toInt32) (hc : ∀ c, c ≠ 112 → c ≠ 119 → I1 c = I c) (hf : ∀ q, q ≠ 18 → I1 112 q = I 112 q) : zM n kd I1 L Rf (T.w_rv (zrvM tb ns)) := by
  refine ⟨h.F, h.ru, ⟨ns, hn, h18, fun k hk => by rw [h119 k hk]; exact hb k hk, fun th => by rw [zrv_cg h119]⟩, ?_, ?_, ?_, ?_, ?_, ?_, ?_, ?_, ?_, ?_, ?_⟩
  · rw [hf 6 (by decide), hc 116 (by decide) (by decide)]; exact h.tx
  · rw [hf 8 (by decide)]; exact h.rw
  · rw [hc 114 (by decide) (by decide)]; exact h.pr
  · rw [hf 4 (by decide)]; exact h.wm
  · rw [hc 115 (by decide) (by decide)]; exact h.wd
  · rw [hf 1 (by decide)]; exact h.c
  · rw [hc 113 (by decide) (by decide)]; exact h.x
  · rw [hf 22 (by decide), hc 122 (by decide) (by decide)]; exact h.un
  · rw [hf 38 (by decide), hc 134 (by decide) (by decide), hc 135 (by decide) (by decide), hc 136 (by decide) (by decide)]; exact h.kp
  · rw [hf 30 (by decide), hc 126 (by decide) (by decide), hc 127 (by decide) (by decide), hc 128 (by decide) (by decide)]; exact h.sn
  · rw [hf 34 (by decide), hc 130 (by decide) (by decide), hc 131 (by decide) (by decide)]; exact h.hd
theorem zpR_ok {n : Nat} {sl : Nat × Nat} {kd : Nat → Nat × Nat} {I : Nat → Nat → Int32} {L : Nat → Nat → Int64} {Rf : Nat → Nat → Option Nat} {T : zT} {l : List (Nat × Value)} {rest : List Value} : ∀ r1 σ1, zpR n sl kd I L Rf T r1 σ1 → σ1.1 = n ∨ ((∀ q ∈ l, eb_okv n q.2) ∧ ∀ v ∈ rest, eb_okv n v) := fun _ _ h => Or.inl (by obtain ⟨_, _, _, h, _⟩ := h; rw [h])
theorem q_X11_rule {n : Nat} {sl : Nat × Nat} {kd : Nat → Nat × Nat} {I : Nat → Nat → Int32} {L : Nat → Nat → Int64} {Rf : Nat → Nat → Option Nat} (d : Nat) {T : zT} {H : Nat} (hM : zM n kd I L Rf T) (hO : zOk H T) : eb_Q mX11_rule (d + 340) [.ref 112] (n, sl, kd, I, L, Rf) (zpM n sl kd I L Rf (some (.int (s_rule T).1)) (s_rule T).2) := by
  have hF := hM.F; have hc7 := hO.c; have hx8 := hO.txl
  refine ep_meth pn_X.2.2.2.2.2.2.2.2.2.2.2 (Nat.le_of_ble_eq_true rfl) ?_
  show eb_P _ _ 0 [(0, .ref 112)] [] (n, sl, kd, I, L, Rf) _
  refine ep_aload_n (i := 0) dX11_rule_0 rfl rfl ?_
  refine ep_iconst (v := 0) dX11_rule_1 (by decide) ?_
  refine ep_pI dX11_rule_2 plX11_89 (hF.lt (by decide)) (hF.lx (by decide)) (hF.kc (by decide) rfl) rfl rfl ?_
  refine ep_nmI (fun I1 hI1 => ?_)
  subst hI1
  refine ep_aload_n (i := 0) dX11_rule_5 rfl rfl ?_
  refine ep_getI dX11_rule_6 flX11_102 (hF.lt (by decide)) (hF.kc (by decide) rfl) ?_
  refine ep_topE (y := nI T.tx.length) (by rw [z_set_nk (by decide)]; exact hM.tx.1) ?_
  refine ep_istore_n (l' := [(1, .int (nI T.tx.length)), (0, .ref 112)]) dX11_rule_9 rfl (by decide) rfl ?_
  refine ep_aload_n (i := 0) dX11_rule_10 rfl rfl ?_
  refine ep_callV (M1 := mX11_readRule) (rest := []) dX11_rule_11 mlX11_186 mvX11_readRule rfl (hF.lt (by decide)) (hF.kc (by decide) rfl) (Nat.le_of_ble_eq_true rfl) rfl (k_rr (I := I) (L := L) (d + 27) hM hO) zpR_ok ?_
  rintro _ _ ⟨J, R1, sp, rfl, hB, hs2, ⟨hrd, rfl⟩ | ⟨hrd, rfl⟩⟩
  · replace hF := hB.P.F
    rw [zrd_cg hM.tb] at hs2
    rw [hs2] at hrd
    show eb_P _ _ 14 [(1, .int (nI T.tx.length)), (0, .ref 112)] (.int 1 :: []) (n, sl, kd, (zpw (z_set J 112 19 0) sp), L, R1) _
    refine ep_if_ne (tgt := 24) dX11_rule_14 (by decide) (fun c2 => ?_) (fun c2 => absurd (by decide) c2)
    refine ep_iconst (v := 0) dX11_rule_24 (by decide) ?_
    refine ep_istore_n (l' := [(2, .int 0), (1, .int (nI T.tx.length)), (0, .ref 112)]) dX11_rule_25 rfl (by decide) rfl ?_
    have h40 := zrd_40 hrd
    refine ep_eq (l2 := [(2, .int (nI 0)), (1, .int (nI T.tx.length)), (0, .ref 112)]) (σ2 := (n, sl, kd, (zpw (z_set J 112 19 0) sp), L, R1)) rfl (by rw [nI_0]) rfl rfl ?_
    refine ep_for T.tx.length (fun k (a : Nat → Nat → Int32) => ([(2, .int (nI k)), (1, .int (nI T.tx.length)), (0, .ref 112)], (n, sl, kd, a, L, R1))) (fun k a => (∀ c, c ≠ 119 → a c = (zpw (z_set J 112 19 0) sp) c) ∧ ∀ q, q < k → a 119 q = ztby T q) ?_ ?_ T.tx.length 0 (zpw (z_set J 112 19 0) sp) (by omega) ⟨fun _ _ => rfl, fun q hq => absurd hq (Nat.not_lt_zero q)⟩
    · rintro k Ka hk ⟨hKa, hKb⟩ ih
      show eb_P _ _ 26 [(2, .int (nI k)), (1, .int (nI T.tx.length)), (0, .ref 112)] [] (n, sl, kd, Ka, L, R1) _
      refine ep_iload_n (i := 2) dX11_rule_26 rfl rfl ?_
      refine ep_iload_n (i := 1) dX11_rule_27 rfl rfl ?_
      refine ep_icmp_ge (tgt := 49) dX11_rule_28 (by decide) (fun c3 => absurd c3 (nI_ge hk (by omega))) (fun c3 => ?_)
      refine ep_aload_n (i := 0) dX11_rule_31 rfl rfl ?_
      refine ep_getR dX11_rule_32 flX11_34 (hF.lt (by decide)) (hF.kc (by decide) rfl) ((hB.R 112 16 (by decide)).trans hM.ru) ?_
      refine ep_iload_n (i := 2) dX11_rule_35 rfl rfl ?_
      refine ep_aload_n (i := 0) dX11_rule_36 rfl rfl ?_
      refine ep_getR dX11_rule_37 flX11_23 (hF.lt (by decide)) (hF.kc (by decide) rfl) (hF.pt 110 rfl) ?_
      refine ep_iload_n (i := 2) dX11_rule_40 rfl rfl ?_
      refine ep_baN (k := k) dX11_rule_41 (hF.lt (by decide)) (hF.ka (by decide) rfl) (by omega) (by decide) ?_
      refine ep_bsN (k := k) dX11_rule_42 (hF.lt (by decide)) (hF.lx (by decide)) (hF.ka (by decide) rfl) (by omega) (by decide) ?_
      refine ep_nmI (fun I4 hI4 => ?_)
      refine ep_iinc (v := (nI (k + 1))) (l' := [(2, .int ((nI (k + 1)))), (1, .int (nI T.tx.length)), (0, .ref 112)]) dX11_rule_43 rfl (nI_1 _) (by decide) rfl ?_
      refine ep_goto (tgt := 26) dX11_rule_46 (by decide) ?_
      exact ep_eq (l2 := [(2, .int (nI (k + 1))), (1, .int (nI T.tx.length)), (0, .ref 112)]) rfl rfl rfl rfl (ih I4 ⟨fun c hc => by rw [hI4, z_set_ne hc]; exact hKa c hc, fun q hq => by rw [hI4]; by_cases e : q = k; rw [e, z_set_at, hKa 116 (by decide), zpw_ne (by decide), z_set_ne (by decide), hB.c 116 (by decide) (by decide) (by decide), hM.tb k hk]; exact z_n88 _; rw [z_set_nk e]; exact hKb q (by omega)⟩)
    · rintro Ka ⟨hKa, hKb⟩
      show eb_P _ _ 26 [(2, .int (nI T.tx.length)), (1, .int (nI T.tx.length)), (0, .ref 112)] [] (n, sl, kd, Ka, L, R1) _
      refine ep_iload_n (i := 2) dX11_rule_26 rfl rfl ?_
      refine ep_iload_n (i := 1) dX11_rule_27 rfl rfl ?_
      refine ep_icmp_ge (tgt := 49) dX11_rule_28 (by decide) (fun c5 => ?_) (fun c5 => absurd (nI_le (Nat.le_refl _) (by omega)) c5)
      refine ep_aload_n (i := 0) dX11_rule_49 rfl rfl ?_
      refine ep_iload_n (i := 1) dX11_rule_50 rfl rfl ?_
      refine ep_pI dX11_rule_51 plX11_189 (hF.lt (by decide)) (hF.lx (by decide)) (hF.kc (by decide) rfl) rfl rfl ?_
      refine ep_nmI (fun I6 hI6 => ?_)
      refine ep_iconst (v := 0) dX11_rule_54 (by decide) ?_
      refine ep_iret dX11_rule_55 rfl rfl ?_
      rw [show s_rule T = (0, (T.w_tx []).w_rv (zrvM (ztby T) T.tx.length)) from by unfold s_rule; rw [if_pos hrd]]
      exact ⟨rfl, I6, L, R1, rfl, (hB.fin9 hM sp).rul h40 (by rw [hI6, z_set_at]) (fun q hq => by rw [hI6, z_set_ne (by decide)]; exact hKb q hq) (fun q hq => by obtain ⟨v, hv, e⟩ := hO.tx q hq; exact ⟨v, hv, by unfold ztby; rw [e]⟩) (fun c h1 h2 => by rw [hI6, z_set_ne h1]; exact hKa c h2) (fun q hq => by rw [hI6, z_set_nk hq, hKa 112 (by decide)]), by rw [hI6, z_set_nk (by decide), hKa 112 (by decide)]; exact (hB.fr9 (L := L) sp).1, fun c hc => by rw [hI6, z_set_ne (by omega), hKa c (by omega)]; exact (hB.fr9 sp).2 c hc⟩
  · replace hF := hB.P.F
    rw [zrd_cg hM.tb] at hs2
    rw [hs2] at hrd
    show eb_P _ _ 14 [(1, .int (nI T.tx.length)), (0, .ref 112)] (.int 0 :: []) (n, sl, kd, (zpw (z_set J 112 19 0) sp), L, R1) _
    refine ep_if_ne (tgt := 24) dX11_rule_14 (by decide) (fun c7 => absurd c7 (by decide)) (fun c7 => ?_)
    refine ep_iconst (v := (-1)) dX11_rule_17 (by decide) ?_
    refine ep_aload_n (i := 0) dX11_rule_18 rfl rfl ?_
    refine ep_getI dX11_rule_19 flX11_117 (hF.lt (by decide)) (hF.kc (by decide) rfl) ?_
    refine ep_topE (y := zrdM (ztby T) T.tx.length) (by rw [zpw_14]; exact hs2) ?_
    refine ep_isub dX11_rule_22 ?_
    refine ep_iret dX11_rule_23 rfl rfl ?_
    rw [show s_rule T = (-1 - zrdM (ztby T) T.tx.length, T.w_tx []) from by unfold s_rule; rw [if_neg hrd]]
    exact ⟨rfl, _, _, _, rfl, hB.fin9 hM sp, (hB.fr9 (L := L) sp).1, (hB.fr9 sp).2⟩
theorem y_X11_rule {n : Nat} {sl : Nat × Nat} {kd : Nat → Nat × Nat} {I : Nat → Nat → Int32} {L : Nat → Nat → Int64} {Rf : Nat → Nat → Option Nat} (d : Nat) {T : zT} {H : Nat} (hM : zM n kd I L Rf T) (hO : zOk H T) : zq mX11_rule (d + 340) [.ref 112] (n, sl, kd, I, L, Rf) (zpM n sl kd I L Rf (some (.int (s_rule T).1)) (s_rule T).2) := zq_of_M hM (fun I7 R7 h => q_X11_rule d h hO)
