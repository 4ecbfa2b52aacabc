/-! the class: watch -/
/-- an act is complete ahead of the sign p -/
def zcmp (t : Nat → Int32) (p : Nat) : Prop := z_ln (z_wf t p).1 ≤ (z_wf t p).2
theorem z_waf_m1 {t : Nat → Int32} {m : Nat} (hm : m ≤ 80) (h : z_waf t m (-1)) : (∀ p, p < m → ¬ z_wbad t p) ∧ zcmp t m ∧ m ≤ 60 := by
  obtain ⟨x, h1, h2⟩ := h
  by_cases e : x = -1 ∧ (z_wf t m).2 < z_ln (z_wf t m).1
  · rw [if_pos e] at h2; exact absurd h2.symm (nI_nm1 m (by omega))
  · rw [if_neg e] at h2
    rcases h1 with ⟨p, _, _, _, h6⟩ | ⟨h3, _⟩
    · rw [← h2] at h6; exact absurd h6.symm (nI_nm1 p (by omega))
    · refine ⟨h3, Nat.le_of_not_lt (fun g => e ⟨h2.symm, g⟩), ?_⟩
      rcases Nat.lt_or_ge 60 m with g | g
      · exact absurd (Or.inl rfl) (h3 60 g)
      · exact g
theorem z_ch1 {v : Int32} (h : ¬ z_fa v = 4) : z_ch (z_fa v) 1 = 57 := by
  unfold z_fa at h ⊢
  by_cases h1 : v = 110
  · rw [if_pos h1]; decide
  rw [if_neg h1] at h ⊢
  by_cases h2 : v = 116
  · rw [if_pos h2]; decide
  rw [if_neg h2] at h ⊢
  by_cases h3 : v = 109
  · rw [if_pos h3]; decide
  rw [if_neg h3] at h ⊢
  by_cases h4 : v = 101
  · rw [if_pos h4]; decide
  rw [if_neg h4] at h ⊢
  by_cases h5 : v = 112
  · rw [if_pos h5]; decide
  rw [if_neg h5] at h ⊢
  by_cases h6 : v = 115
  · rw [if_pos h6]; decide
  rw [if_neg h6] at h
  exact absurd rfl h
theorem z_act_ok {t : Nat → Int32} {m p : Nat} (hb : ∀ q, q < m → ¬ z_wbad t q) (hm : zcmp t m) (hp : p < m) (hc : zcmp t p) : ¬ z_fa (t p) = 4 ∧ p + z_ln (z_fa (t p)) ≤ m ∧ z_st 57 (t (p + 1)) ∧ zcmp t (p + z_ln (z_fa (t p))) := by
  have hq : z_wq t p = (z_fa (t p), 0) := by unfold z_wq; rw [if_pos (show z_ln (z_wf t p).1 ≤ (z_wf t p).2 from hc)]
  have h4 : ¬ z_fa (t p) = 4 := fun e => hb p hp (Or.inr (Or.inl (by rw [hq, e]; decide)))
  have h2 := z_ln2 h4
  have hs : ∀ o, 1 ≤ o → o ≤ z_ln (z_fa (t p)) → p + o ≤ m ∧ z_wf t (p + o) = (z_fa (t p), o) := by
    intro o
    induction o with
    | zero => intro h; exact absurd h (by decide)
    | succ o ih =>
      intro _ ho
      by_cases e : o = 0
      · subst e; exact ⟨by omega, by rw [show p + (0 + 1) = p + 1 from rfl, z_wf_succ, hq]⟩
      · obtain ⟨i1, i2⟩ := ih (by omega) (by omega)
        have hlt : p + o < m := by
          rcases Nat.lt_or_ge (p + o) m with g | g
          · exact g
          · have e2 : p + o = m := by omega
            unfold zcmp at hm; rw [← e2, i2] at hm
            exact absurd hm (by show ¬ z_ln (z_fa (t p)) ≤ o; omega)
        have hq2 : z_wq t (p + o) = (z_fa (t p), o) := by unfold z_wq; rw [i2, if_neg (by show ¬ z_ln (z_fa (t p)) ≤ o; omega)]
        exact ⟨by omega, by rw [show p + (o + 1) = p + o + 1 from rfl, z_wf_succ, hq2]⟩
  have h1 := hs 1 (Nat.le_refl _) (by omega)
  have hl := hs _ (by omega) (Nat.le_refl _)
  refine ⟨h4, hl.1, ?_, by unfold zcmp; rw [hl.2]; exact Nat.le_refl _⟩
  have hq1 : z_wq t (p + 1) = (z_fa (t p), 1) := by unfold z_wq; rw [h1.2, if_neg (by show ¬ z_ln (z_fa (t p)) ≤ 1; omega)]
  have hlt : p + 1 < m := by
    have := hs 2 (by decide) h2
    omega
  have hn := hb (p + 1) hlt
  refine Classical.byContradiction (fun g => hn (Or.inr (Or.inr ?_)))
  rw [hq1, z_ch1 h4]; exact g
theorem zap_ok {t : Nat → Int32} {m : Nat} (hb : ∀ q, q < m → ¬ z_wbad t q) (hm : zcmp t m) : ∀ j, (∀ i, i < j → zap t i < m) → zap t j ≤ m ∧ zcmp t (zap t j) ∧ 2 * j ≤ zap t j
  | 0, _ => ⟨Nat.zero_le _, (show z_ln 4 ≤ 0 by decide), Nat.zero_le _⟩
  | j + 1, h => by
    obtain ⟨h1, h2, h3⟩ := zap_ok hb hm j (fun i hi => h i (by omega))
    have h4 := z_act_ok hb hm (h j (by omega)) h2
    have h5 := z_ln2 h4.1
    exact ⟨h4.2.1, h4.2.2.2, by show 2 * (j + 1) ≤ zap t j + z_ln (z_fa (t (zap t j))); omega⟩
theorem zan_ex {t : Nat → Int32} {m : Nat} (hb : ∀ q, q < m → ¬ z_wbad t q) (hm : zcmp t m) (h60 : m ≤ 60) : ∃ N, N ≤ 30 ∧ (∀ j, j < N → zap t j < m) ∧ ¬ zap t N < m := by
  have hs : ∀ j, (∀ i, i < j → zap t i < m) ∨ ∃ N, N < j ∧ (∀ i, i < N → zap t i < m) ∧ ¬ zap t N < m := by
    intro j
    induction j with
    | zero => exact Or.inl (fun i hi => absurd hi (Nat.not_lt_zero i))
    | succ j ih =>
      rcases ih with h | ⟨N, h1, h2⟩
      · by_cases e : zap t j < m
        · exact Or.inl (fun i hi => by by_cases g : i = j; rw [g]; exact e; exact h i (by omega))
        · exact Or.inr ⟨j, by omega, h, e⟩
      · exact Or.inr ⟨N, by omega, h2⟩
  rcases hs 31 with h | ⟨N, h1, h2, h3⟩
  · have h4 := (zap_ok hb hm 30 (fun i hi => h i (by omega))).2.2
    have h5 := h 30 (by decide)
    omega
  · exact ⟨N, by omega, h2, h3⟩
theorem z_dg_v {T : zT} {H p : Nat} (hO : zOk H T) (hp : p < T.tx.length) (h : z_st 57 (T.tt p)) : ∃ v, v < 10 ∧ T.tt p - 48 = nI v := by
  rw [z_st57, zdg_i] at h
  obtain ⟨v, hv, e⟩ := hO.tx p hp
  have h2 : (48 : Int32) ≤ T.tx.getD p 0 ∧ T.tx.getD p 0 ≤ 57 := h
  rw [e] at h2
  show ∃ w, w < 10 ∧ T.tx.getD p 0 - 48 = nI w
  rw [e]; exact z_dig_k v hv h2
theorem y_X9_formOfAct {σ : eb_S} (d : Nat) (s : Int32) : zq mX9_formOfAct d [.int s] σ (fun r τ => τ = σ ∧ r = some (.ref (1000000 + z_fa s))) := fun f B I7 R7 h7 => (q_X9_formOfAct d s).to (by rintro _ _ ⟨rfl, rfl⟩; exact ⟨_, _, B, rfl, h7, rfl, rfl⟩)
theorem zwx_okT {T : zT} {H : Nat} (hO : zOk H T) (k : Nat) (h : ∀ j, j < k → ∃ v, v < 10 ∧ T.tt (zap T.tt j + 1) - 48 = nI v) : zOk (H + 9 * k) (T.w_x (zwx T k)) := (hO.le (Nat.le_add_right _ _)).wx (zwx_ok hO k h).x
theorem zwta_T {T : zT} {k : Nat} : q_act (T.w_x (zwx T k)) (T.tt (zap T.tt k)) (T.tt (zap T.tt k + 1) - 48) (z_a2 T.tt (zap T.tt k)) = zwta T k := (q_act_tx (T := T.w_x (zwx T k)) (t := [])).symm
theorem zpW_ok {n : Nat} {sl : Nat × Nat} {kd : Nat → Nat × Nat} {I0 : Nat → Nat → Int32} {L0 : Nat → Nat → Int64} {R0 : Nat → Nat → Option Nat} {g : Nat → Nat → Int32} {L : Nat → Nat → Int64} {Rf : Nat → Nat → Option Nat} {T : zT} {G Bf : Option (Nat → Int32)} {q : Int32 × (Nat → Int32)} {l : List (Nat × Value)} {rest : List Value} : ∀ r1 σ1, zpW n sl kd I0 L0 R0 g L Rf T G Bf q r1 σ1 → σ1.1 = n ∨ ((∀ q ∈ l, eb_okv n q.2) ∧ ∀ v ∈ rest, eb_okv n v) := fun _ _ h => Or.inl (by obtain ⟨_, _, _, I1, h, _⟩ := h; rw [h])
theorem c_watch {n : Nat} {sl : Nat × Nat} {kd : Nat → Nat × Nat} {I : Nat → Nat → Int32} {L : Nat → Nat → Int64} {Rf : Nat → Nat → Option Nat} (d : Nat) {T : zT} {H : Nat} (hC : zC n kd I L Rf T) (hO : zOk H T) (hH : H ≤ 900000000) (f : Nat) (B : Nat → Int32) : ez_Q (f + 100) B f (fun _ => True) mX10_watch (d + 60) [.ref 0] (n, sl, kd, I, L, Rf) (zpC n sl kd I L Rf (some (.int (s_watch T).1)) (s_watch T).2) := by
  have hF := hC.F; have hc7 := hO.c
  have hK0 : zK n kd I L Rf I I L Rf T none none false := zK.start hC
  refine ez_meth pn_X.2.2.2.2.2.2.2.2.2.2.1 (Nat.le_of_ble_eq_true rfl) ?_
  show ez_P _ _ _ _ _ _ 0 [(0, .ref 0)] [] (n, sl, kd, I, L, Rf) _
  refine ez_aload_n (i := 0) dX10_watch_0 rfl rfl ?_
  refine ez_getR dX10_watch_1 flX10_10 (hF.lt (by decide)) (hF.kc (by decide) rfl) (hF.pt 1 rfl) ?_
  refine ez_callV (M1 := mX9_watchFault) (rest := []) dX10_watch_4 mlX10_229 mvX9_watchFault rfl (hF.lt (by decide)) (hF.kc (by decide) rfl) (Nat.le_of_ble_eq_true rfl) rfl (k_watch_f (I := I) (L := L) (d + 54) hC hO) eb_rqok ?_
  rintro _ _ ⟨rfl, fv, rfl, hfv⟩
  show ez_P _ _ _ _ _ _ 7 [(0, .ref 0)] (.int fv :: []) (n, sl, kd, I, L, Rf) _
  refine ez_istore_n (l' := [(1, .int fv), (0, .ref 0)]) dX10_watch_7 rfl (by decide) rfl ?_
  refine ez_iload_n (i := 1) dX10_watch_8 rfl rfl ?_
  refine ez_iconst (v := (-1)) dX10_watch_9 (by decide) ?_
  refine ez_icmp_eq (tgt := 24) dX10_watch_10 (by decide) (fun c1 => ?_) (fun c1 => ?_)
  · skip
    refine ez_aload_n (i := 0) dX10_watch_24 rfl rfl ?_
    refine ez_getR dX10_watch_25 flX10_40 (hF.lt (by decide)) (hF.kc (by decide) rfl) (hF.pt 29 rfl) ?_
    refine ez_aload_n (i := 0) dX10_watch_28 rfl rfl ?_
    refine ez_getR dX10_watch_29 flX10_33 (hF.lt (by decide)) (hF.kc (by decide) rfl) (hF.pt 21 rfl) ?_
    refine ez_callV (M1 := mX7_copy) (rest := []) dX10_watch_32 mlX10_188 mvX7_copy rfl (hF.lt (by decide)) (hF.kc (by decide) rfl) (Nat.le_of_ble_eq_true rfl) rfl (y_X7_copy (I := I) (L := L) (d + 59) (i := 29) (j := 21) (hF.shp (by decide)) (by decide) (hF.shp (by decide)) (by decide) (by decide) hK0.C.sh.cr hO.c) (eb_vok rfl) ?_
    rintro _ _ ⟨rfl, rfl⟩
    refine ez_nmI (fun I2 hI2 => ?_)
    show ez_P _ _ _ _ _ _ 35 [(1, .int fv), (0, .ref 0)] [] (n, sl, kd, I2, L, Rf) _
    have hK3 : zK n kd I L Rf I I2 L Rf T none (some T.x) false := by rw [hI2]; exact hK0.cpb
    refine ez_iconst (v := 0) dX10_watch_35 (by decide) ?_
    refine ez_istore_n (l' := [(2, .int 0), (1, .int fv), (0, .ref 0)]) dX10_watch_36 rfl (by decide) rfl ?_
    refine ez_iconst (v := 0) dX10_watch_37 (by decide) ?_
    refine ez_istore_n (l' := [(3, .int 0), (2, .int 0), (1, .int fv), (0, .ref 0)]) dX10_watch_38 rfl (by decide) rfl ?_
    refine ez_iconst (v := 0) dX10_watch_39 (by decide) ?_
    refine ez_istore (l' := [(4, .int 0), (3, .int 0), (2, .int 0), (1, .int fv), (0, .ref 0)]) dX10_watch_40 (by decide) rfl ?_
    refine ez_sub (l' := [(3, .int 0), (2, .int 0), (4, .int 0), (1, .int fv), (0, .ref 0)]) [1, 2, 0, 3, 4] rfl ?_
    have hfm := c1 ▸ hfv
    obtain ⟨hwb, hwc, hw60⟩ := z_waf_m1 hO.txl hfm
    obtain ⟨N, hN, hN1, hN2⟩ := zan_ex hwb hwc hw60
    have hsw := s_watch_y hfm hN1 hN2 (by omega)
    rw [hsw]
    have hac : ∀ j, j < N → ¬ z_fa (T.tt (zap T.tt j)) = 4 ∧ zap T.tt j + z_ln (z_fa (T.tt (zap T.tt j))) ≤ T.tx.length ∧ ∃ v, v < 10 ∧ T.tt (zap T.tt j + 1) - 48 = nI v := fun j hj => by have h1 := zap_ok hwb hwc j (fun i hi => hN1 i (by omega)); have h2 := z_act_ok hwb hwc (hN1 j hj) h1.2.1; have h3 := z_ln2 h2.1; exact ⟨h2.1, h2.2.1, z_dg_v hO (by omega) h2.2.2.1⟩
    refine ez_le (f' := f + (90 - 0)) (by omega) ?_
    refine ez_eq (l2 := [(3, .int 0), (2, .int (nI 0)), (4, .int (nI 0)), (1, .int fv), (0, .ref 0)]) (σ2 := (n, sl, kd, I2, L, Rf)) rfl rfl rfl rfl ?_
    refine ez_forB (N + 1) (fun k => f + (90 - k)) (fun k (a : (Nat → Nat → Int32) × Int32 × Nat × Nat) => ([(3, .int a.2.1), (2, .int (nI a.2.2.1)), (4, .int (nI a.2.2.2)), (1, .int fv), (0, .ref 0)], (n, sl, kd, a.1, L, Rf))) (fun k _ a => k ≤ N ∧ ((a.2.1 = 0 ∧ a.2.2.1 = k ∧ a.2.2.2 = zap T.tt k ∧ zK n kd I L Rf I a.1 L Rf (T.w_x (zwx T k)) none (some T.x) false ∧ zfd (p_wat T) (N - k) k = zfd (p_wat T) N 0) ∨ (∃ i, k = i + 1 ∧ a.2.1 = 1 ∧ a.2.2.1 = i ∧ a.2.2.2 < 200 ∧ zK n kd I L Rf I a.1 L Rf (T.w_x (zwx T (i + 1))) none (some T.x) false ∧ zfd (p_wat T) N 0 = some i))) ?_ ?_ (N + 1) 0 _ (I2, 0, 0, 0) (by omega) ⟨Nat.zero_le _, Or.inl ⟨rfl, rfl, rfl, hK3, rfl⟩⟩
    · rintro k Bm ⟨Ia, ra, ca, pa⟩ hk1 ⟨hkN, ⟨h1, h2, h3, hKa, hzf⟩ | ⟨i, hki, h1, h2, h3, hKa, hzf⟩⟩ ih
      · replace h1 : ra = 0 := h1; replace h2 : ca = k := h2; replace h3 : pa = zap T.tt k := h3; subst h1 h2 h3; replace hKa : zK n kd I L Rf I Ia L Rf (T.w_x (zwx T ca)) none (some T.x) false := hKa
        have hzo := zap_ok hwb hwc ca (fun i hi => hN1 i (by omega)); have hzl := hzo.1; have hz2 := hzo.2.2
        show ez_P _ _ _ _ _ _ 42 [(3, .int 0), (2, .int (nI ca)), (4, .int (nI (zap T.tt ca))), (1, .int fv), (0, .ref 0)] [] (n, sl, kd, Ia, L, Rf) _
        refine ez_iload (i := 4) dX10_watch_42 rfl ?_
        refine ez_aload_n (i := 0) dX10_watch_44 rfl rfl ?_
        refine ez_getR dX10_watch_45 flX10_10 (hF.lt (by decide)) (hF.kc (by decide) rfl) (hF.pt 1 rfl) ?_
        refine ez_getI dX10_watch_48 flX10_108 (hF.lt (by decide)) (hF.kc (by decide) rfl) ?_
        refine ez_topE (y := nI (T.w_x (zwx T ca)).tx.length) hKa.C.tx.1 ?_
        refine ez_icmp_ge (tgt := 112) dX10_watch_51 (by decide) (fun c4 => ?_) (fun c4 => ?_)
        · skip
          refine ez_aload_n (i := 0) dX10_watch_112 rfl rfl ?_
          refine ez_getR dX10_watch_113 flX10_10 (hF.lt (by decide)) (hF.kc (by decide) rfl) (hF.pt 1 rfl) ?_
          refine ez_callV (M1 := mX9_empty) (rest := []) dX10_watch_116 mlX10_123 mvX9_empty rfl (hF.lt (by decide)) (hF.kc (by decide) rfl) (Nat.le_of_ble_eq_true rfl) rfl (y_X9_empty (I := Ia) (L := L) (d + 59) hF.txt rfl) (eb_vok rfl) ?_
          rintro _ _ ⟨rfl, rfl⟩
          refine ez_nmI (fun I5 hI5 => ?_)
          show ez_P _ _ _ _ _ _ 119 [(3, .int 0), (2, .int (nI ca)), (4, .int (nI (zap T.tt ca))), (1, .int fv), (0, .ref 0)] [] (n, sl, kd, I5, L, Rf) _
          have hK6 : zK n kd I L Rf I I5 L Rf ((T.w_x (zwx T ca)).w_tx []) none (some T.x) false := by rw [hI5]; exact hKa.txt (I1 := z_set Ia 1 1 0) ⟨z_set_at, fun k hk => absurd hk (Nat.not_lt_zero k)⟩ (fun c hc => z_set_ne (by omega))
          refine ez_iload_n (i := 2) dX10_watch_119 rfl rfl ?_
          refine ez_if_le (tgt := 134) dX10_watch_120 (by decide) (fun c7 => ?_) (fun c7 => ?_)
          · skip
            refine ez_aload_n (i := 0) dX10_watch_134 rfl rfl ?_
            refine ez_getR dX10_watch_135 flX10_19 (hF.lt (by decide)) (hF.kc (by decide) rfl) (hF.pt 3 rfl) ?_
            refine ez_iload_n (i := 3) dX10_watch_138 rfl rfl ?_
            refine ez_if_eq (tgt := 146) dX10_watch_139 (by decide) (fun c8 => ?_) (fun c8 => absurd (by decide) c8)
            refine ez_iconst (v := 0) dX10_watch_146 (by decide) ?_
            refine ez_bipush (v := 100) dX10_watch_147 (by decide) ?_
            refine ez_aload_n (i := 0) dX10_watch_149 rfl rfl ?_
            refine ez_getR dX10_watch_150 flX10_33 (hF.lt (by decide)) (hF.kc (by decide) rfl) (hF.pt 21 rfl) ?_
            refine ez_getI dX10_watch_153 flX10_208 (hF.lt (by decide)) (hF.kc (by decide) rfl) ?_
            refine ez_topE (y := (zwx T ca) 22) hK6.C.sh.l ?_
            refine ez_iadd dX10_watch_156 ?_
            refine ez_callV (M1 := mX4_tell_) (rest := []) dX10_watch_157 mlX10_204 mvX4_tell_ rfl (hF.lt (by decide)) (hF.kc (by decide) rfl) (Nat.le_of_ble_eq_true rfl) rfl (y_X4_tell_ (I := I5) (L := L) (d + 58) hF 0 (100 + ((zwx T ca) 22))) z_tok ?_
            rintro _ _ ⟨rfl, I9, L10, rfl, hr11, ho12⟩
            show ez_P _ _ _ _ _ _ 160 [(3, .int 0), (2, .int (nI ca)), (4, .int (nI (zap T.tt ca))), (1, .int fv), (0, .ref 0)] [] (n, sl, kd, I9, L10, Rf) _
            have hK13 : zK n kd I L Rf I I9 L10 Rf (((T.w_x (zwx T ca)).w_tx []).w_rw [(0 : Int32).toInt64, (100 + ((zwx T ca) 22)).toInt64]) none (some T.x) false := by exact hK6.tell hr11 ho12
            refine ez_iload_n (i := 2) dX10_watch_160 rfl rfl ?_
            refine ez_iret dX10_watch_161 rfl rfl ?_
            have heN : ca = N := by rcases Nat.lt_or_ge ca N with g | g; exact absurd (show nI T.tx.length ≤ nI (zap T.tt ca) from c4) (nI_ge (hN1 ca g) (by omega)); omega
            rw [heN] at hzf
            rw [show s_wat T N = (nI ca, ((T.w_tx []).w_x (zwx T ca)).w_rw [0, (100 + (zwx T ca) 22).toInt64]) from by unfold s_wat; rw [(zfd_end hzf)]; simp only; rw [← heN]; rw [if_pos (show ca = 0 from Nat.le_zero.mp (nI_leN c7 (by omega)))]]
            exact hK13.end
          · skip
            refine ez_aload_n (i := 0) dX10_watch_123 rfl rfl ?_
            refine ez_getR dX10_watch_124 flX10_46 (hF.lt (by decide)) (hF.kc (by decide) rfl) (hF.pt 30 rfl) ?_
            refine ez_aload_n (i := 0) dX10_watch_127 rfl rfl ?_
            refine ez_getR dX10_watch_128 flX10_40 (hF.lt (by decide)) (hF.kc (by decide) rfl) (hF.pt 29 rfl) ?_
            refine ez_callV (M1 := mX2_add) (rest := []) dX10_watch_131 mlX10_198 mvX2_add rfl (hF.lt (by decide)) (hF.kc (by decide) rfl) (Nat.le_of_ble_eq_true rfl) rfl (k_past (T := ((T.w_x (zwx T ca)).w_tx [])) (I := I5) (L := L) (d + 58) hK6.C hO.unl hO.c (hK6.bf _ rfl)) k_po_ok ?_
            rintro _ _ ⟨rfl, I14, rfl, hs15, hn16⟩
            show ez_P _ _ _ _ _ _ 134 [(3, .int 0), (2, .int (nI ca)), (4, .int (nI (zap T.tt ca))), (1, .int fv), (0, .ref 0)] [] (n, sl, kd, I14, L, Rf) _
            have hK17 : zK n kd I L Rf I I14 L Rf (((T.w_x (zwx T ca)).w_tx []).w_un (zpush ((T.w_x (zwx T ca)).w_tx []).un T.x)) none (some T.x) false := by exact hK6.unn hs15 hn16
            refine ez_aload_n (i := 0) dX10_watch_134 rfl rfl ?_
            refine ez_getR dX10_watch_135 flX10_19 (hF.lt (by decide)) (hF.kc (by decide) rfl) (hF.pt 3 rfl) ?_
            refine ez_iload_n (i := 3) dX10_watch_138 rfl rfl ?_
            refine ez_if_eq (tgt := 146) dX10_watch_139 (by decide) (fun c18 => ?_) (fun c18 => absurd (by decide) c18)
            refine ez_iconst (v := 0) dX10_watch_146 (by decide) ?_
            refine ez_bipush (v := 100) dX10_watch_147 (by decide) ?_
            refine ez_aload_n (i := 0) dX10_watch_149 rfl rfl ?_
            refine ez_getR dX10_watch_150 flX10_33 (hF.lt (by decide)) (hF.kc (by decide) rfl) (hF.pt 21 rfl) ?_
            refine ez_getI dX10_watch_153 flX10_208 (hF.lt (by decide)) (hF.kc (by decide) rfl) ?_
            refine ez_topE (y := (zwx T ca) 22) hK17.C.sh.l ?_
            refine ez_iadd dX10_watch_156 ?_
            refine ez_callV (M1 := mX4_tell_) (rest := []) dX10_watch_157 mlX10_204 mvX4_tell_ rfl (hF.lt (by decide)) (hF.kc (by decide) rfl) (Nat.le_of_ble_eq_true rfl) rfl (y_X4_tell_ (I := I14) (L := L) (d + 58) hF 0 (100 + ((zwx T ca) 22))) z_tok ?_
            rintro _ _ ⟨rfl, I19, L20, rfl, hr21, ho22⟩
            show ez_P _ _ _ _ _ _ 160 [(3, .int 0), (2, .int (nI ca)), (4, .int (nI (zap T.tt ca))), (1, .int fv), (0, .ref 0)] [] (n, sl, kd, I19, L20, Rf) _
            have hK23 : zK n kd I L Rf I I19 L20 Rf ((((T.w_x (zwx T ca)).w_tx []).w_un (zpush ((T.w_x (zwx T ca)).w_tx []).un T.x)).w_rw [(0 : Int32).toInt64, (100 + ((zwx T ca) 22)).toInt64]) none (some T.x) false := by exact hK17.tell hr21 ho22
            refine ez_iload_n (i := 2) dX10_watch_160 rfl rfl ?_
            refine ez_iret dX10_watch_161 rfl rfl ?_
            have heN : ca = N := by rcases Nat.lt_or_ge ca N with g | g; exact absurd (show nI T.tx.length ≤ nI (zap T.tt ca) from c4) (nI_ge (hN1 ca g) (by omega)); omega
            rw [heN] at hzf
            rw [show s_wat T N = (nI ca, (((T.w_tx []).w_x (zwx T ca)).w_un (zpush T.un T.x)).w_rw [0, (100 + (zwx T ca) 22).toInt64]) from by unfold s_wat; rw [(zfd_end hzf)]; simp only; rw [← heN]; rw [if_neg (show ¬ ca = 0 from fun e => c7 (by rw [e]; decide))]]
            exact hK23.end
        · skip
          have hlt : zap T.tt ca < T.tx.length := Nat.lt_of_not_le (fun g => c4 (nI_le g (by omega)))
          have hcN : ca < N := Nat.lt_of_le_of_ne hkN (fun e => hN2 (e ▸ hlt))
          refine ez_le (f' := f + (90 - (ca + 1)) + 1) (by omega) ?_
          refine ez_iload_n (i := 3) dX10_watch_54 rfl rfl ?_
          refine ez_if_ne (tgt := 112) dX10_watch_55 (by decide) (fun c24 => absurd c24 (by decide)) (fun c24 => ?_)
          refine ez_aload_n (i := 0) dX10_watch_58 rfl rfl ?_
          refine ez_iload (i := 4) dX10_watch_59 rfl ?_
          refine ez_callVm (M1 := mX10_act) (rest := []) dX10_watch_61 mlX10_232 mvX10_act rfl (hF.lt (by decide)) (hF.kc (by decide) rfl) (Nat.le_of_ble_eq_true rfl) rfl (k_act (I := Ia) (L := L) (d + 19) hKa (zwx_okT hO ca (fun j hj => (hac j (by omega)).2.2)) (by omega) (p := zap T.tt ca) (hac ca hcN).1 (hac ca hcN).2.1 (hac ca hcN).2.2 (f + (90 - (ca + 1))) _) zpW_ok ?_
          rintro _ _ C1 _ ⟨v1, rfl, hv1, I1, rfl, hK1⟩
          show ez_P _ _ _ _ _ _ 64 [(3, .int 0), (2, .int (nI ca)), (4, .int (nI (zap T.tt ca))), (1, .int fv), (0, .ref 0)] (.int v1 :: []) (n, sl, kd, I1, L, Rf) _
          rw [zwta_T] at hv1; rw [zwta_T] at hK1
          replace hK1 : zK n kd I L Rf I I1 L Rf (T.w_x (zwx T (ca + 1))) none (some T.x) false := hK1
          refine ez_if_ge (tgt := 71) dX10_watch_64 (by decide) (fun c25 => ?_) (fun c25 => ?_)
          · skip
            refine ez_iconst (v := 0) dX10_watch_71 (by decide) ?_
            refine ez_istore_n (l' := [(3, .int 0), (2, .int (nI ca)), (4, .int (nI (zap T.tt ca))), (1, .int fv), (0, .ref 0)]) dX10_watch_72 rfl (by decide) rfl ?_
            refine ez_iload_n (i := 2) dX10_watch_73 rfl rfl ?_
            refine ez_iload_n (i := 3) dX10_watch_74 rfl rfl ?_
            refine ez_if_eq (tgt := 82) dX10_watch_75 (by decide) (fun c26 => ?_) (fun c26 => absurd (by decide) c26)
            refine ez_iconst (v := 1) dX10_watch_82 (by decide) ?_
            refine ez_iadd dX10_watch_83 ?_
            refine ez_topE (y := nI (ca + 1)) (nI_add _ _) ?_
            refine ez_istore_n (l' := [(2, .int (nI (ca + 1))), (3, .int 0), (4, .int (nI (zap T.tt ca))), (1, .int fv), (0, .ref 0)]) dX10_watch_84 rfl (by decide) rfl ?_
            refine ez_iload (i := 4) dX10_watch_85 rfl ?_
            refine ez_iconst (v := 1) dX10_watch_87 (by decide) ?_
            refine ez_aload_n (i := 0) dX10_watch_88 rfl rfl ?_
            refine ez_getR dX10_watch_89 flX10_10 (hF.lt (by decide)) (hF.kc (by decide) rfl) (hF.pt 1 rfl) ?_
            refine ez_iload (i := 4) dX10_watch_92 rfl ?_
            refine ez_callV (M1 := mX9_at) (rest := [.int 1, .int (nI (zap T.tt ca))]) dX10_watch_94 mlX10_235 mvX9_at rfl (hF.lt (by decide)) (hF.kc (by decide) rfl) (Nat.le_of_ble_eq_true rfl) rfl (y_X9_at_in (I := I1) (L := L) (d + 59) hF.txt rfl (m := T.tx.length) hK1.C.tx.1 hO.txl (k := zap T.tt ca) hlt) eb_rok ?_
            rintro _ _ ⟨rfl, rfl⟩
            show ez_P _ _ _ _ _ _ 97 [(2, .int (nI (ca + 1))), (3, .int 0), (4, .int (nI (zap T.tt ca))), (1, .int fv), (0, .ref 0)] (.int (I1 2 (zap T.tt ca)) :: [.int 1, .int (nI (zap T.tt ca))]) _ _
            refine ez_topE (y := T.tt (zap T.tt ca)) (hK1.C.tx.2 _ hlt) ?_
            refine ez_callS (M1 := mX9_formOfAct) (rest := [.int 1, .int (nI (zap T.tt ca))]) dX10_watch_97 mlX10_238 msX9_formOfAct rfl (Nat.le_of_ble_eq_true rfl) rfl (y_X9_formOfAct (d + 59) _) (fun _ _ h => Or.inl (by rw [h.1])) ?_
            rintro _ _ ⟨rfl, rfl⟩
            obtain ⟨fi, hfi⟩ : ∃ fi, fi = z_fa (T.tt (zap T.tt ca)) := ⟨_, rfl⟩
            have hi : fi < 11 := by rw [hfi]; unfold z_fa; split; decide; split; decide; split; decide; split; decide; split; decide; split; decide; decide
            rw [← hfi]
            have hfl : zap T.tt (ca + 1) = zap T.tt ca + z_ln fi := by rw [hfi]; rfl
            have hf7 := z_ln7 fi hi; have hf2 : 2 ≤ z_ln fi := by rw [hfi]; exact z_ln2 (hac ca hcN).1
            show ez_P _ _ _ _ _ _ 100 [(2, .int (nI (ca + 1))), (3, .int 0), (4, .int (nI (zap T.tt ca))), (1, .int fv), (0, .ref 0)] [.ref (1000000 + fi), .int 1, .int (nI (zap T.tt ca))] (n, sl, kd, I1, L, Rf) _
            refine ez_callT (M1 := mJ0_length_8abf5) (i := fi) (rest := [.int 1, .int (nI (zap T.tt ca))]) hi rfl dX10_watch_100 mkX10_242 mcJ0_length_8abf5 mtJ0_length_8abf5 rfl (Nat.le_of_ble_eq_true rfl) rfl (zq_r (fun σ => q_J0_length_8abf5 (σ := σ) (d + 58) hi) _) eb_rok ?_
            rintro _ _ ⟨rfl, rfl⟩
            show ez_P _ _ _ _ _ _ 103 [(2, .int (nI (ca + 1))), (3, .int 0), (4, .int (nI (zap T.tt ca))), (1, .int fv), (0, .ref 0)] (.int (nI (z_ln fi)) :: [.int 1, .int (nI (zap T.tt ca))]) _ _
            refine ez_max dX10_watch_103 xmX10_247 (Nat.le_of_ble_eq_true rfl) ?_
            refine ez_topE (y := nI (z_ln fi)) (if_pos (show (1 : Int32) < nI (z_ln fi) from nI_lt (show 1 < z_ln fi by omega) (by omega))) ?_
            refine ez_iadd dX10_watch_106 ?_
            refine ez_topE (y := nI ((zap T.tt ca) + (z_ln fi))) (nI_add _ _) ?_
            refine ez_istore (l' := [(4, .int (nI ((zap T.tt ca) + (z_ln fi)))), (2, .int (nI (ca + 1))), (3, .int 0), (1, .int fv), (0, .ref 0)]) dX10_watch_107 (by decide) rfl ?_
            refine ez_goto (tgt := 42) dX10_watch_109 (by decide) ?_
            refine ez_sub (l' := [(3, .int 0), (2, .int (nI (ca + 1))), (4, .int (nI ((zap T.tt ca) + (z_ln fi)))), (1, .int fv), (0, .ref 0)]) [2, 1, 0, 3, 4] rfl ?_
            exact ez_eq (l2 := [(3, .int 0), (2, .int (nI (ca + 1))), (4, .int (nI (zap T.tt (ca + 1)))), (1, .int fv), (0, .ref 0)]) rfl (by rw [hfl]) rfl rfl (ih _ (I1, 0, ca + 1, zap T.tt (ca + 1)) ⟨by omega, Or.inl ⟨rfl, rfl, rfl, hK1, zfd_step hzf hcN (fun g => absurd (hv1.2 (of_decide_eq_true g)) (Int32.not_lt.mpr c25))⟩⟩)
          · skip
            refine ez_iconst (v := 1) dX10_watch_67 (by decide) ?_
            refine ez_goto (tgt := 72) dX10_watch_68 (by decide) ?_
            refine ez_istore_n (l' := [(3, .int 1), (2, .int (nI ca)), (4, .int (nI (zap T.tt ca))), (1, .int fv), (0, .ref 0)]) dX10_watch_72 rfl (by decide) rfl ?_
            refine ez_iload_n (i := 2) dX10_watch_73 rfl rfl ?_
            refine ez_iload_n (i := 3) dX10_watch_74 rfl rfl ?_
            refine ez_if_eq (tgt := 82) dX10_watch_75 (by decide) (fun c27 => absurd c27 (by decide)) (fun c27 => ?_)
            refine ez_iconst (v := 0) dX10_watch_78 (by decide) ?_
            refine ez_goto (tgt := 83) dX10_watch_79 (by decide) ?_
            refine ez_iadd dX10_watch_83 ?_
            refine ez_topE (y := nI (ca + 0)) (nI_add _ _) ?_
            refine ez_istore_n (l' := [(2, .int (nI (ca + 0))), (3, .int 1), (4, .int (nI (zap T.tt ca))), (1, .int fv), (0, .ref 0)]) dX10_watch_84 rfl (by decide) rfl ?_
            refine ez_iload (i := 4) dX10_watch_85 rfl ?_
            refine ez_iconst (v := 1) dX10_watch_87 (by decide) ?_
            refine ez_aload_n (i := 0) dX10_watch_88 rfl rfl ?_
            refine ez_getR dX10_watch_89 flX10_10 (hF.lt (by decide)) (hF.kc (by decide) rfl) (hF.pt 1 rfl) ?_
            refine ez_iload (i := 4) dX10_watch_92 rfl ?_
            refine ez_callV (M1 := mX9_at) (rest := [.int 1, .int (nI (zap T.tt ca))]) dX10_watch_94 mlX10_235 mvX9_at rfl (hF.lt (by decide)) (hF.kc (by decide) rfl) (Nat.le_of_ble_eq_true rfl) rfl (y_X9_at_in (I := I1) (L := L) (d + 59) hF.txt rfl (m := T.tx.length) hK1.C.tx.1 hO.txl (k := zap T.tt ca) hlt) eb_rok ?_
            rintro _ _ ⟨rfl, rfl⟩
            show ez_P _ _ _ _ _ _ 97 [(2, .int (nI (ca + 0))), (3, .int 1), (4, .int (nI (zap T.tt ca))), (1, .int fv), (0, .ref 0)] (.int (I1 2 (zap T.tt ca)) :: [.int 1, .int (nI (zap T.tt ca))]) _ _
            refine ez_topE (y := T.tt (zap T.tt ca)) (hK1.C.tx.2 _ hlt) ?_
            refine ez_callS (M1 := mX9_formOfAct) (rest := [.int 1, .int (nI (zap T.tt ca))]) dX10_watch_97 mlX10_238 msX9_formOfAct rfl (Nat.le_of_ble_eq_true rfl) rfl (y_X9_formOfAct (d + 59) _) (fun _ _ h => Or.inl (by rw [h.1])) ?_
            rintro _ _ ⟨rfl, rfl⟩
            obtain ⟨fi, hfi⟩ : ∃ fi, fi = z_fa (T.tt (zap T.tt ca)) := ⟨_, rfl⟩
            have hi : fi < 11 := by rw [hfi]; unfold z_fa; split; decide; split; decide; split; decide; split; decide; split; decide; split; decide; decide
            rw [← hfi]
            have hfl : zap T.tt (ca + 1) = zap T.tt ca + z_ln fi := by rw [hfi]; rfl
            have hf7 := z_ln7 fi hi; have hf2 : 2 ≤ z_ln fi := by rw [hfi]; exact z_ln2 (hac ca hcN).1
            show ez_P _ _ _ _ _ _ 100 [(2, .int (nI (ca + 0))), (3, .int 1), (4, .int (nI (zap T.tt ca))), (1, .int fv), (0, .ref 0)] [.ref (1000000 + fi), .int 1, .int (nI (zap T.tt ca))] (n, sl, kd, I1, L, Rf) _
            refine ez_callT (M1 := mJ0_length_8abf5) (i := fi) (rest := [.int 1, .int (nI (zap T.tt ca))]) hi rfl dX10_watch_100 mkX10_242 mcJ0_length_8abf5 mtJ0_length_8abf5 rfl (Nat.le_of_ble_eq_true rfl) rfl (zq_r (fun σ => q_J0_length_8abf5 (σ := σ) (d + 58) hi) _) eb_rok ?_
            rintro _ _ ⟨rfl, rfl⟩
            show ez_P _ _ _ _ _ _ 103 [(2, .int (nI (ca + 0))), (3, .int 1), (4, .int (nI (zap T.tt ca))), (1, .int fv), (0, .ref 0)] (.int (nI (z_ln fi)) :: [.int 1, .int (nI (zap T.tt ca))]) _ _
            refine ez_max dX10_watch_103 xmX10_247 (Nat.le_of_ble_eq_true rfl) ?_
            refine ez_topE (y := nI (z_ln fi)) (if_pos (show (1 : Int32) < nI (z_ln fi) from nI_lt (show 1 < z_ln fi by omega) (by omega))) ?_
            refine ez_iadd dX10_watch_106 ?_
            refine ez_topE (y := nI ((zap T.tt ca) + (z_ln fi))) (nI_add _ _) ?_
            refine ez_istore (l' := [(4, .int (nI ((zap T.tt ca) + (z_ln fi)))), (2, .int (nI (ca + 0))), (3, .int 1), (1, .int fv), (0, .ref 0)]) dX10_watch_107 (by decide) rfl ?_
            refine ez_goto (tgt := 42) dX10_watch_109 (by decide) ?_
            refine ez_sub (l' := [(3, .int 1), (2, .int (nI (ca + 0))), (4, .int (nI ((zap T.tt ca) + (z_ln fi)))), (1, .int fv), (0, .ref 0)]) [2, 1, 0, 3, 4] rfl ?_
            exact ez_eq (l2 := [(3, .int 1), (2, .int (nI ca)), (4, .int (nI (zap T.tt ca + z_ln fi))), (1, .int fv), (0, .ref 0)]) rfl (by rw [Nat.add_zero]) rfl rfl (ih _ (I1, 1, ca, zap T.tt ca + z_ln fi) ⟨by omega, Or.inr ⟨ca, rfl, rfl, rfl, (show zap T.tt ca + z_ln fi < 200 by omega), hK1, zfd_hit hzf hcN (decide_eq_true (hv1.1 (Int32.not_le.mp c25)))⟩⟩)
      · replace h1 : ra = 1 := h1; replace h2 : ca = i := h2; replace h3 : pa < 200 := h3; subst h1 h2; replace hKa : zK n kd I L Rf I Ia L Rf (T.w_x (zwx T (ca + 1))) none (some T.x) false := hKa
        show ez_P _ _ _ _ _ _ 42 [(3, .int 1), (2, .int (nI ca)), (4, .int (nI pa)), (1, .int fv), (0, .ref 0)] [] (n, sl, kd, Ia, L, Rf) _
        refine ez_iload (i := 4) dX10_watch_42 rfl ?_
        refine ez_aload_n (i := 0) dX10_watch_44 rfl rfl ?_
        refine ez_getR dX10_watch_45 flX10_10 (hF.lt (by decide)) (hF.kc (by decide) rfl) (hF.pt 1 rfl) ?_
        refine ez_getI dX10_watch_48 flX10_108 (hF.lt (by decide)) (hF.kc (by decide) rfl) ?_
        refine ez_topE (y := nI (T.w_x (zwx T (ca + 1))).tx.length) hKa.C.tx.1 ?_
        refine ez_icmp_ge (tgt := 112) dX10_watch_51 (by decide) (fun c28 => ?_) (fun c28 => ?_)
        · skip
          refine ez_aload_n (i := 0) dX10_watch_112 rfl rfl ?_
          refine ez_getR dX10_watch_113 flX10_10 (hF.lt (by decide)) (hF.kc (by decide) rfl) (hF.pt 1 rfl) ?_
          refine ez_callV (M1 := mX9_empty) (rest := []) dX10_watch_116 mlX10_123 mvX9_empty rfl (hF.lt (by decide)) (hF.kc (by decide) rfl) (Nat.le_of_ble_eq_true rfl) rfl (y_X9_empty (I := Ia) (L := L) (d + 59) hF.txt rfl) (eb_vok rfl) ?_
          rintro _ _ ⟨rfl, rfl⟩
          refine ez_nmI (fun I29 hI29 => ?_)
          show ez_P _ _ _ _ _ _ 119 [(3, .int 1), (2, .int (nI ca)), (4, .int (nI pa)), (1, .int fv), (0, .ref 0)] [] (n, sl, kd, I29, L, Rf) _
          have hK30 : zK n kd I L Rf I I29 L Rf ((T.w_x (zwx T (ca + 1))).w_tx []) none (some T.x) false := by rw [hI29]; exact hKa.txt (I1 := z_set Ia 1 1 0) ⟨z_set_at, fun k hk => absurd hk (Nat.not_lt_zero k)⟩ (fun c hc => z_set_ne (by omega))
          refine ez_iload_n (i := 2) dX10_watch_119 rfl rfl ?_
          refine ez_if_le (tgt := 134) dX10_watch_120 (by decide) (fun c31 => ?_) (fun c31 => ?_)
          · skip
            refine ez_aload_n (i := 0) dX10_watch_134 rfl rfl ?_
            refine ez_getR dX10_watch_135 flX10_19 (hF.lt (by decide)) (hF.kc (by decide) rfl) (hF.pt 3 rfl) ?_
            refine ez_iload_n (i := 3) dX10_watch_138 rfl rfl ?_
            refine ez_if_eq (tgt := 146) dX10_watch_139 (by decide) (fun c32 => absurd c32 (by decide)) (fun c32 => ?_)
            refine ez_iconst (v := 1) dX10_watch_142 (by decide) ?_
            refine ez_goto (tgt := 147) dX10_watch_143 (by decide) ?_
            refine ez_bipush (v := 100) dX10_watch_147 (by decide) ?_
            refine ez_aload_n (i := 0) dX10_watch_149 rfl rfl ?_
            refine ez_getR dX10_watch_150 flX10_33 (hF.lt (by decide)) (hF.kc (by decide) rfl) (hF.pt 21 rfl) ?_
            refine ez_getI dX10_watch_153 flX10_208 (hF.lt (by decide)) (hF.kc (by decide) rfl) ?_
            refine ez_topE (y := (zwx T (ca + 1)) 22) hK30.C.sh.l ?_
            refine ez_iadd dX10_watch_156 ?_
            refine ez_callV (M1 := mX4_tell_) (rest := []) dX10_watch_157 mlX10_204 mvX4_tell_ rfl (hF.lt (by decide)) (hF.kc (by decide) rfl) (Nat.le_of_ble_eq_true rfl) rfl (y_X4_tell_ (I := I29) (L := L) (d + 58) hF 1 (100 + ((zwx T (ca + 1)) 22))) z_tok ?_
            rintro _ _ ⟨rfl, I33, L34, rfl, hr35, ho36⟩
            show ez_P _ _ _ _ _ _ 160 [(3, .int 1), (2, .int (nI ca)), (4, .int (nI pa)), (1, .int fv), (0, .ref 0)] [] (n, sl, kd, I33, L34, Rf) _
            have hK37 : zK n kd I L Rf I I33 L34 Rf (((T.w_x (zwx T (ca + 1))).w_tx []).w_rw [(1 : Int32).toInt64, (100 + ((zwx T (ca + 1)) 22)).toInt64]) none (some T.x) false := by exact hK30.tell hr35 ho36
            refine ez_iload_n (i := 2) dX10_watch_160 rfl rfl ?_
            refine ez_iret dX10_watch_161 rfl rfl ?_
            rw [show s_wat T N = (nI ca, ((T.w_tx []).w_x (zwx T (ca + 1))).w_rw [1, (100 + (zwx T (ca + 1)) 22).toInt64]) from by unfold s_wat; rw [hzf]; simp only; rw [if_pos (show ca = 0 from Nat.le_zero.mp (nI_leN c31 (by omega)))]]
            exact hK37.end
          · skip
            refine ez_aload_n (i := 0) dX10_watch_123 rfl rfl ?_
            refine ez_getR dX10_watch_124 flX10_46 (hF.lt (by decide)) (hF.kc (by decide) rfl) (hF.pt 30 rfl) ?_
            refine ez_aload_n (i := 0) dX10_watch_127 rfl rfl ?_
            refine ez_getR dX10_watch_128 flX10_40 (hF.lt (by decide)) (hF.kc (by decide) rfl) (hF.pt 29 rfl) ?_
            refine ez_callV (M1 := mX2_add) (rest := []) dX10_watch_131 mlX10_198 mvX2_add rfl (hF.lt (by decide)) (hF.kc (by decide) rfl) (Nat.le_of_ble_eq_true rfl) rfl (k_past (T := ((T.w_x (zwx T (ca + 1))).w_tx [])) (I := I29) (L := L) (d + 58) hK30.C hO.unl hO.c (hK30.bf _ rfl)) k_po_ok ?_
            rintro _ _ ⟨rfl, I38, rfl, hs39, hn40⟩
            show ez_P _ _ _ _ _ _ 134 [(3, .int 1), (2, .int (nI ca)), (4, .int (nI pa)), (1, .int fv), (0, .ref 0)] [] (n, sl, kd, I38, L, Rf) _
            have hK41 : zK n kd I L Rf I I38 L Rf (((T.w_x (zwx T (ca + 1))).w_tx []).w_un (zpush ((T.w_x (zwx T (ca + 1))).w_tx []).un T.x)) none (some T.x) false := by exact hK30.unn hs39 hn40
            refine ez_aload_n (i := 0) dX10_watch_134 rfl rfl ?_
            refine ez_getR dX10_watch_135 flX10_19 (hF.lt (by decide)) (hF.kc (by decide) rfl) (hF.pt 3 rfl) ?_
            refine ez_iload_n (i := 3) dX10_watch_138 rfl rfl ?_
            refine ez_if_eq (tgt := 146) dX10_watch_139 (by decide) (fun c42 => absurd c42 (by decide)) (fun c42 => ?_)
            refine ez_iconst (v := 1) dX10_watch_142 (by decide) ?_
            refine ez_goto (tgt := 147) dX10_watch_143 (by decide) ?_
            refine ez_bipush (v := 100) dX10_watch_147 (by decide) ?_
            refine ez_aload_n (i := 0) dX10_watch_149 rfl rfl ?_
            refine ez_getR dX10_watch_150 flX10_33 (hF.lt (by decide)) (hF.kc (by decide) rfl) (hF.pt 21 rfl) ?_
            refine ez_getI dX10_watch_153 flX10_208 (hF.lt (by decide)) (hF.kc (by decide) rfl) ?_
            refine ez_topE (y := (zwx T (ca + 1)) 22) hK41.C.sh.l ?_
            refine ez_iadd dX10_watch_156 ?_
            refine ez_callV (M1 := mX4_tell_) (rest := []) dX10_watch_157 mlX10_204 mvX4_tell_ rfl (hF.lt (by decide)) (hF.kc (by decide) rfl) (Nat.le_of_ble_eq_true rfl) rfl (y_X4_tell_ (I := I38) (L := L) (d + 58) hF 1 (100 + ((zwx T (ca + 1)) 22))) z_tok ?_
            rintro _ _ ⟨rfl, I43, L44, rfl, hr45, ho46⟩
            show ez_P _ _ _ _ _ _ 160 [(3, .int 1), (2, .int (nI ca)), (4, .int (nI pa)), (1, .int fv), (0, .ref 0)] [] (n, sl, kd, I43, L44, Rf) _
            have hK47 : zK n kd I L Rf I I43 L44 Rf ((((T.w_x (zwx T (ca + 1))).w_tx []).w_un (zpush ((T.w_x (zwx T (ca + 1))).w_tx []).un T.x)).w_rw [(1 : Int32).toInt64, (100 + ((zwx T (ca + 1)) 22)).toInt64]) none (some T.x) false := by exact hK41.tell hr45 ho46
            refine ez_iload_n (i := 2) dX10_watch_160 rfl rfl ?_
            refine ez_iret dX10_watch_161 rfl rfl ?_
            rw [show s_wat T N = (nI ca, (((T.w_tx []).w_x (zwx T (ca + 1))).w_un (zpush T.un T.x)).w_rw [1, (100 + (zwx T (ca + 1)) 22).toInt64]) from by unfold s_wat; rw [hzf]; simp only; rw [if_neg (show ¬ ca = 0 from fun e => c31 (by rw [e]; decide))]]
            exact hK47.end
        · skip
          refine ez_iload_n (i := 3) dX10_watch_54 rfl rfl ?_
          refine ez_if_ne (tgt := 112) dX10_watch_55 (by decide) (fun c48 => ?_) (fun c48 => absurd (by decide) c48)
          refine ez_aload_n (i := 0) dX10_watch_112 rfl rfl ?_
          refine ez_getR dX10_watch_113 flX10_10 (hF.lt (by decide)) (hF.kc (by decide) rfl) (hF.pt 1 rfl) ?_
          refine ez_callV (M1 := mX9_empty) (rest := []) dX10_watch_116 mlX10_123 mvX9_empty rfl (hF.lt (by decide)) (hF.kc (by decide) rfl) (Nat.le_of_ble_eq_true rfl) rfl (y_X9_empty (I := Ia) (L := L) (d + 59) hF.txt rfl) (eb_vok rfl) ?_
          rintro _ _ ⟨rfl, rfl⟩
          refine ez_nmI (fun I49 hI49 => ?_)
          show ez_P _ _ _ _ _ _ 119 [(3, .int 1), (2, .int (nI ca)), (4, .int (nI pa)), (1, .int fv), (0, .ref 0)] [] (n, sl, kd, I49, L, Rf) _
          have hK50 : zK n kd I L Rf I I49 L Rf ((T.w_x (zwx T (ca + 1))).w_tx []) none (some T.x) false := by rw [hI49]; exact hKa.txt (I1 := z_set Ia 1 1 0) ⟨z_set_at, fun k hk => absurd hk (Nat.not_lt_zero k)⟩ (fun c hc => z_set_ne (by omega))
          refine ez_iload_n (i := 2) dX10_watch_119 rfl rfl ?_
          refine ez_if_le (tgt := 134) dX10_watch_120 (by decide) (fun c51 => ?_) (fun c51 => ?_)
          · skip
            refine ez_aload_n (i := 0) dX10_watch_134 rfl rfl ?_
            refine ez_getR dX10_watch_135 flX10_19 (hF.lt (by decide)) (hF.kc (by decide) rfl) (hF.pt 3 rfl) ?_
            refine ez_iload_n (i := 3) dX10_watch_138 rfl rfl ?_
            refine ez_if_eq (tgt := 146) dX10_watch_139 (by decide) (fun c52 => absurd c52 (by decide)) (fun c52 => ?_)
            refine ez_iconst (v := 1) dX10_watch_142 (by decide) ?_
            refine ez_goto (tgt := 147) dX10_watch_143 (by decide) ?_
            refine ez_bipush (v := 100) dX10_watch_147 (by decide) ?_
            refine ez_aload_n (i := 0) dX10_watch_149 rfl rfl ?_
            refine ez_getR dX10_watch_150 flX10_33 (hF.lt (by decide)) (hF.kc (by decide) rfl) (hF.pt 21 rfl) ?_
            refine ez_getI dX10_watch_153 flX10_208 (hF.lt (by decide)) (hF.kc (by decide) rfl) ?_
            refine ez_topE (y := (zwx T (ca + 1)) 22) hK50.C.sh.l ?_
            refine ez_iadd dX10_watch_156 ?_
            refine ez_callV (M1 := mX4_tell_) (rest := []) dX10_watch_157 mlX10_204 mvX4_tell_ rfl (hF.lt (by decide)) (hF.kc (by decide) rfl) (Nat.le_of_ble_eq_true rfl) rfl (y_X4_tell_ (I := I49) (L := L) (d + 58) hF 1 (100 + ((zwx T (ca + 1)) 22))) z_tok ?_
            rintro _ _ ⟨rfl, I53, L54, rfl, hr55, ho56⟩
            show ez_P _ _ _ _ _ _ 160 [(3, .int 1), (2, .int (nI ca)), (4, .int (nI pa)), (1, .int fv), (0, .ref 0)] [] (n, sl, kd, I53, L54, Rf) _
            have hK57 : zK n kd I L Rf I I53 L54 Rf (((T.w_x (zwx T (ca + 1))).w_tx []).w_rw [(1 : Int32).toInt64, (100 + ((zwx T (ca + 1)) 22)).toInt64]) none (some T.x) false := by exact hK50.tell hr55 ho56
            refine ez_iload_n (i := 2) dX10_watch_160 rfl rfl ?_
            refine ez_iret dX10_watch_161 rfl rfl ?_
            rw [show s_wat T N = (nI ca, ((T.w_tx []).w_x (zwx T (ca + 1))).w_rw [1, (100 + (zwx T (ca + 1)) 22).toInt64]) from by unfold s_wat; rw [hzf]; simp only; rw [if_pos (show ca = 0 from Nat.le_zero.mp (nI_leN c51 (by omega)))]]
            exact hK57.end
          · skip
            refine ez_aload_n (i := 0) dX10_watch_123 rfl rfl ?_
            refine ez_getR dX10_watch_124 flX10_46 (hF.lt (by decide)) (hF.kc (by decide) rfl) (hF.pt 30 rfl) ?_
            refine ez_aload_n (i := 0) dX10_watch_127 rfl rfl ?_
            refine ez_getR dX10_watch_128 flX10_40 (hF.lt (by decide)) (hF.kc (by decide) rfl) (hF.pt 29 rfl) ?_
            refine ez_callV (M1 := mX2_add) (rest := []) dX10_watch_131 mlX10_198 mvX2_add rfl (hF.lt (by decide)) (hF.kc (by decide) rfl) (Nat.le_of_ble_eq_true rfl) rfl (k_past (T := ((T.w_x (zwx T (ca + 1))).w_tx [])) (I := I49) (L := L) (d + 58) hK50.C hO.unl hO.c (hK50.bf _ rfl)) k_po_ok ?_
            rintro _ _ ⟨rfl, I58, rfl, hs59, hn60⟩
            show ez_P _ _ _ _ _ _ 134 [(3, .int 1), (2, .int (nI ca)), (4, .int (nI pa)), (1, .int fv), (0, .ref 0)] [] (n, sl, kd, I58, L, Rf) _
            have hK61 : zK n kd I L Rf I I58 L Rf (((T.w_x (zwx T (ca + 1))).w_tx []).w_un (zpush ((T.w_x (zwx T (ca + 1))).w_tx []).un T.x)) none (some T.x) false := by exact hK50.unn hs59 hn60
            refine ez_aload_n (i := 0) dX10_watch_134 rfl rfl ?_
            refine ez_getR dX10_watch_135 flX10_19 (hF.lt (by decide)) (hF.kc (by decide) rfl) (hF.pt 3 rfl) ?_
            refine ez_iload_n (i := 3) dX10_watch_138 rfl rfl ?_
            refine ez_if_eq (tgt := 146) dX10_watch_139 (by decide) (fun c62 => absurd c62 (by decide)) (fun c62 => ?_)
            refine ez_iconst (v := 1) dX10_watch_142 (by decide) ?_
            refine ez_goto (tgt := 147) dX10_watch_143 (by decide) ?_
            refine ez_bipush (v := 100) dX10_watch_147 (by decide) ?_
            refine ez_aload_n (i := 0) dX10_watch_149 rfl rfl ?_
            refine ez_getR dX10_watch_150 flX10_33 (hF.lt (by decide)) (hF.kc (by decide) rfl) (hF.pt 21 rfl) ?_
            refine ez_getI dX10_watch_153 flX10_208 (hF.lt (by decide)) (hF.kc (by decide) rfl) ?_
            refine ez_topE (y := (zwx T (ca + 1)) 22) hK61.C.sh.l ?_
            refine ez_iadd dX10_watch_156 ?_
            refine ez_callV (M1 := mX4_tell_) (rest := []) dX10_watch_157 mlX10_204 mvX4_tell_ rfl (hF.lt (by decide)) (hF.kc (by decide) rfl) (Nat.le_of_ble_eq_true rfl) rfl (y_X4_tell_ (I := I58) (L := L) (d + 58) hF 1 (100 + ((zwx T (ca + 1)) 22))) z_tok ?_
            rintro _ _ ⟨rfl, I63, L64, rfl, hr65, ho66⟩
            show ez_P _ _ _ _ _ _ 160 [(3, .int 1), (2, .int (nI ca)), (4, .int (nI pa)), (1, .int fv), (0, .ref 0)] [] (n, sl, kd, I63, L64, Rf) _
            have hK67 : zK n kd I L Rf I I63 L64 Rf ((((T.w_x (zwx T (ca + 1))).w_tx []).w_un (zpush ((T.w_x (zwx T (ca + 1))).w_tx []).un T.x)).w_rw [(1 : Int32).toInt64, (100 + ((zwx T (ca + 1)) 22)).toInt64]) none (some T.x) false := by exact hK61.tell hr65 ho66
            refine ez_iload_n (i := 2) dX10_watch_160 rfl rfl ?_
            refine ez_iret dX10_watch_161 rfl rfl ?_
            rw [show s_wat T N = (nI ca, (((T.w_tx []).w_x (zwx T (ca + 1))).w_un (zpush T.un T.x)).w_rw [1, (100 + (zwx T (ca + 1)) 22).toInt64]) from by unfold s_wat; rw [hzf]; simp only; rw [if_neg (show ¬ ca = 0 from fun e => c51 (by rw [e]; decide))]]
            exact hK67.end
    · rintro Bm ⟨Ia, ra, ca, pa⟩ ⟨hkN, _⟩
      exact absurd hkN (by omega)
  · skip
    refine ez_aload_n (i := 0) dX10_watch_13 rfl rfl ?_
    refine ez_getR dX10_watch_14 flX10_10 (hF.lt (by decide)) (hF.kc (by decide) rfl) (hF.pt 1 rfl) ?_
    refine ez_callV (M1 := mX9_empty) (rest := []) dX10_watch_17 mlX10_123 mvX9_empty rfl (hF.lt (by decide)) (hF.kc (by decide) rfl) (Nat.le_of_ble_eq_true rfl) rfl (y_X9_empty (I := I) (L := L) (d + 59) hF.txt rfl) (eb_vok rfl) ?_
    rintro _ _ ⟨rfl, rfl⟩
    refine ez_nmI (fun I68 hI68 => ?_)
    show ez_P _ _ _ _ _ _ 20 [(1, .int fv), (0, .ref 0)] [] (n, sl, kd, I68, L, Rf) _
    have hK69 : zK n kd I L Rf I I68 L Rf (T.w_tx []) none none false := by rw [hI68]; exact hK0.txt (I1 := z_set I 1 1 0) ⟨z_set_at, fun k hk => absurd hk (Nat.not_lt_zero k)⟩ (fun c hc => z_set_ne (by omega))
    refine ez_iconst (v := (-1)) dX10_watch_20 (by decide) ?_
    refine ez_iload_n (i := 1) dX10_watch_21 rfl rfl ?_
    refine ez_isub dX10_watch_22 ?_
    refine ez_iret dX10_watch_23 rfl rfl ?_
    rw [show s_watch T = (-1 - fv, T.w_tx []) from by unfold s_watch; rw [z_the_eq hfv z_waf_u, if_neg c1]]
    exact hK69.end
