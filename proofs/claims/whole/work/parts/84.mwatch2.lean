/-! the reference: watch -/
theorem zpM.bs {n : Nat} {sl : Nat × Nat} {kd : Nat → Nat × Nat} {I I0 : Nat → Nat → Int32} {L L0 : Nat → Nat → Int64} {Rf R0 : Nat → Nat → Option Nat} {T1 : zT} {v r : Option Value} {τ : eb_S} (hb : ∀ c, c < 112 ∨ 136 < c → I0 c = I c ∧ L0 c = L c ∧ R0 c = Rf c) (h : zpM n sl kd I0 L0 R0 v T1 r τ) : zpM n sl kd I L Rf v T1 r τ := by
  obtain ⟨h1, I1, L1, R1, h2, h3, h4, h5⟩ := h
  exact ⟨h1, I1, L1, R1, h2, h3, h4, fun c hc => ⟨(h5 c hc).1.trans (hb c hc).1, (h5 c hc).2.1.trans (hb c hc).2.1, (h5 c hc).2.2.trans (hb c hc).2.2⟩⟩
theorem zq_of_MZ {n : Nat} {sl : Nat × Nat} {kd : Nat → Nat × Nat} {I : Nat → Nat → Int32} {L : Nat → Nat → Int64} {Rf : Nat → Nat → Option Nat} {T T1 : zT} {M : eb_M} {d : Nat} {as : List Value} {v : Option Value} (hM : zM n kd I L Rf T) (h : ∀ f B I7 R7, zInv f B I7 → zM n kd I7 L R7 T → eb_Q M d as (n, sl, kd, I7, L, R7) (zΦ f (fun C => C = B) (zpM n sl kd I7 L R7 v T1))) : zq M d as (n, sl, kd, I, L, Rf) (zpM n sl kd I L Rf v T1) := by
  intro f B I7 R7 h7
  refine (h f B I7 R7 h7.2.2 (hM.E h7)).to ?_
  rintro r ⟨tn, tsl, tkd, tI, tL, tR⟩ ⟨Ia, Ra, C, hC, hE, rfl, I1, L1, R1, he, hM1, h9, hf⟩
  obtain ⟨rfl, rfl, rfl, rfl, rfl, rfl⟩ : tn = n ∧ tsl = sl ∧ tkd = kd ∧ Ia = I1 ∧ tL = L1 ∧ Ra = R1 := by
    have := he
    simp only [Prod.mk.injEq] at this
    exact this
  have hJ : ∀ c, 112 ≤ c → c ≤ 136 → (fun c => if c < 112 ∨ 136 < c then I c else Ia c) c = Ia c := fun c g1 g2 => if_neg (by omega)
  refine ⟨fun c => if c < 112 ∨ 136 < c then I c else Ia c, fun c => if c < 112 ∨ 136 < c then Rf c else Ra c, C, hC, ⟨fun c k hs => ?_, fun c k hs => ?_, hE.2.2⟩, rfl, _, tL, _, rfl, ?_, ?_, fun c hc => ⟨if_pos hc, (hf c hc).2.1, if_pos hc⟩⟩
  · show tI c k = (if c < 112 ∨ 136 < c then I c else Ia c) k
    refine (show tI c k = Ia c k from hE.1 c k hs).trans ?_
    by_cases e : c < 112 ∨ 136 < c
    · rw [if_pos e, (hf c e).1]; exact h7.1 c k hs
    · rw [if_neg e]
  · show tR c k = (if c < 112 ∨ 136 < c then Rf c else Ra c) k
    refine (show tR c k = Ra c k from hE.2.1 c k hs).trans ?_
    by_cases e : c < 112 ∨ 136 < c
    · rw [if_pos e, (hf c e).2.2]; exact h7.2.1 c k hs
    · rw [if_neg e]
  · refine hM1.cg ⟨hM.F.1, hM.F.2.1, hM.F.2.2.1, fun k p e => ?_⟩ hJ rfl (congrFun (if_neg (by omega)) 16)
    show (if p.1 < 112 ∨ 136 < p.1 then Rf p.1 else Ra p.1) p.2.1 = _
    by_cases e2 : p.1 < 112 ∨ 136 < p.1
    · rw [if_pos e2]; exact hM.F.2.2.2 k p e
    · rw [if_neg e2]; exact hM1.F.2.2.2 k p e
  · show (if (112 : Nat) < 112 ∨ 136 < 112 then I 112 else Ia 112) 9 = 0
    rw [if_neg (by omega)]; exact h9
theorem zB.E {n : Nat} {kd : Nat → Nat × Nat} {I J : Nat → Nat → Int32} {Rf R1 : Nat → Nat → Option Nat} {T : zT} {tp f : Nat} {B : Nat → Int32} (h : zB n kd I Rf T tp J R1) (s : zps) (hI : zInv f B I) : zE f B (zpw J s) (zpw J s) R1 R1 := by
  have hc : ∀ c, c < 112 → zpw J s c = I c := fun c hc => (zpw_ne (by omega)).trans (h.c c (by omega) (by omega) (by omega))
  exact ⟨fun _ _ _ => rfl, fun _ _ _ => rfl, hI.cg (by rw [hc 5 (by decide)]) (hc 19 (by decide)) (hc 20 (by decide))⟩
/-- how many acts there are -/
def zan (t : Nat → Int32) (m : Nat) : Nat → Nat → Nat
  | 0, j => j
  | f + 1, j => if zap t j < m then zan t m f (j + 1) else j
theorem zan_eq {t : Nat → Int32} {m k : Nat} (h : ∀ j, j < k → zap t j < m) (hk : ¬ zap t k < m) : ∀ f j, j ≤ k → k ≤ j + f → zan t m f j = k
  | 0, j, h1, h2 => by unfold zan; omega
  | f + 1, j, h1, h2 => by
    unfold zan
    by_cases e : j = k
    · rw [e, if_neg hk]
    · rw [if_pos (h j (by omega))]; exact zan_eq h hk f (j + 1) (by omega) (by omega)
noncomputable def s_watch (T : zT) : Int32 × zT := if z_the (z_waf T.tt T.tx.length) = -1 then s_wat T (zan T.tt T.tx.length 80 0) else (-1 - z_the (z_waf T.tt T.tx.length), T.w_tx [])
theorem s_watch_n {T : zT} {p : Nat} (hp : p < 1000) (h : z_waf T.tt T.tx.length (nI p)) : s_watch T = (-1 - nI p, T.w_tx []) := by
  unfold s_watch; rw [z_the_eq h z_waf_u, if_neg (nI_nm1 p (by omega))]
theorem s_watch_y {T : zT} {k : Nat} (h : z_waf T.tt T.tx.length (-1)) (h1 : ∀ j, j < k → zap T.tt j < T.tx.length) (h2 : ¬ zap T.tt k < T.tx.length) (hk : k ≤ 80) : s_watch T = s_wat T k := by
  unfold s_watch; rw [z_the_eq h z_waf_u, if_pos rfl, zan_eq h1 h2 80 0 (Nat.zero_le _) (by omega)]
theorem z_ln2 {v : Int32} (h : ¬ z_fa v = 4) : 2 ≤ z_ln (z_fa v) := by
  unfold z_fa at h ⊢
  by_cases h1 : v = 110
  · rw [if_pos h1]; decide
  rw [if_neg h1] at h ⊢
  by_cases h2 : v = 116
  · rw [if_pos h2]; decide
  rw [if_neg h2] at h ⊢
  by_cases h3 : v = 109
  · rw [if_pos h3]; decide
  rw [if_neg h3] at h ⊢
  by_cases h4 : v = 101
  · rw [if_pos h4]; decide
  rw [if_neg h4] at h ⊢
  by_cases h5 : v = 112
  · rw [if_pos h5]; decide
  rw [if_neg h5] at h ⊢
  by_cases h6 : v = 115
  · rw [if_pos h6]; decide
  rw [if_neg h6] at h
  exact absurd rfl h
theorem zac_J {T : zT} {J J1 : Nat → Nat → Int32} {k p j : Nat} (hj : j < k) (h : ∀ q, q < 3 * k → J1 125 q = J 125 q) (ha : zac T J j p) : zac T J1 j p := by
  unfold zac at ha ⊢
  rw [h (3 * j) (by omega), h (3 * j + 1) (by omega), h (3 * j + 2) (by omega)]
  exact ha
/-- the first k acts are read -/
def zwR (T : zT) (J : Nat → Nat → Int32) (k : Nat) : Prop := 2 * k ≤ zap T.tt k ∧ (∃ f o, zwG T (zap T.tt k) f o ∧ z_ln f ≤ o) ∧ ∀ j, j < k → zac T J j (zap T.tt j) ∧ zap T.tt j < T.tx.length
theorem zwR.s {T : zT} {J J1 : Nat → Nat → Int32} {k : Nat} (h : zwR T J k) (hs : ∀ q, q < 3 * k → J1 125 q = J 125 q) (hl : zap T.tt k < T.tx.length) (hG : zwG T (zap T.tt k + z_ln (z_fa (T.tt (zap T.tt k)))) (z_fa (T.tt (zap T.tt k))) (z_ln (z_fa (T.tt (zap T.tt k))))) (ha : zac T J1 k (zap T.tt k)) : zwR T J1 (k + 1) := by
  have h2 := z_ln2 ha.2.2.2.2.2
  have h1 := h.1
  refine ⟨?_, ⟨_, _, hG, Nat.le_refl _⟩, fun j hj => ?_⟩
  · show 2 * (k + 1) ≤ zap T.tt k + z_ln (z_fa (T.tt (zap T.tt k)))
    omega
  · by_cases e : j = k
    · rw [e]; exact ⟨ha, hl⟩
    · exact ⟨zac_J (by omega) hs (h.2.2 j (by omega)).1, (h.2.2 j (by omega)).2⟩
theorem q_X11_watch {n : Nat} {sl : Nat × Nat} {kd : Nat → Nat × Nat} {I : Nat → Nat → Int32} {L : Nat → Nat → Int64} {Rf : Nat → Nat → Option Nat} (d : Nat) {T : zT} {H : Nat} (hM : zM n kd I L Rf T) (hO : zOk H T) (hH : H ≤ 900000000) (f : Nat) (B : Nat → Int32) (hI : zInv f B I): eb_Q mX11_watch (d + 400) [.ref 112] (n, sl, kd, I, L, Rf) (zΦ f (fun C => C = B) (zpM n sl kd I L Rf (some (.int (s_watch T).1)) (s_watch T).2)) := by
  have hF := hM.F; have hc7 := hO.c; have hx8 := hO.txl
  refine ep_meth pn_X.2.2.2.2.2.2.2.2.2.2.2 (Nat.le_of_ble_eq_true rfl) ?_
  show eb_P _ _ 0 [(0, .ref 112)] [] (n, sl, kd, I, L, Rf) _
  refine ep_aload_n (i := 0) dX11_watch_0 rfl rfl ?_
  refine ep_iconst (v := 0) dX11_watch_1 (by decide) ?_
  refine ep_pI dX11_watch_2 plX11_89 (hF.lt (by decide)) (hF.lx (by decide)) (hF.kc (by decide) rfl) rfl rfl ?_
  refine ep_nmI (fun I1 hI1 => ?_)
  subst hI1
  refine ep_aload_n (i := 0) dX11_watch_5 rfl rfl ?_
  refine ep_bipush (v := 60) dX11_watch_6 (by decide) ?_
  refine ep_callV (M1 := mX11_beginText) (rest := []) dX11_watch_8 mlX11_144 mvX11_beginText rfl (hF.lt (by decide)) (hF.kc (by decide) rfl) (Nat.le_of_ble_eq_true rfl) rfl (k_bt (I := I) (L := L) (d + 398) hM hO (tp := 60) (by decide)) (fun _ _ h => Or.inl (by obtain ⟨_, J, R1, h, _⟩ := h; rw [h])) ?_
  rintro _ _ ⟨rfl, J0, R1, rfl, hB⟩
  replace hF := hB.P.F
  show eb_P _ _ 11 [(0, .ref 112)] [] (n, sl, kd, (zpw J0 (0, -1)), L, R1) _
  refine ep_iconst (v := 0) dX11_watch_11 (by decide) ?_
  refine ep_istore_n (l' := [(1, .int 0), (0, .ref 112)]) dX11_watch_12 rfl (by decide) rfl ?_
  refine ep_eq (l2 := [(1, .int (nI 0)), (0, .ref 112)]) (σ2 := (n, sl, kd, zpw J0 (0, -1), L, R1)) rfl (by rw [nI_0]) rfl rfl ?_
  refine ep_for 32 (fun k (a : (Nat → Nat → Int32) × zps) => ([(1, .int (nI k)), (0, .ref 112)], (n, sl, kd, zpw a.1 a.2, L, R1))) (fun k a => zB n kd I Rf T 60 a.1 R1 ∧ ((a.2 = (zap T.tt k, -1) ∧ zwR T a.1 k) ∨ (k ≤ 31 ∧ ∃ p b, p < 200 ∧ b < 200 ∧ a.2 = (b, nI p) ∧ z_waf T.tt T.tx.length (nI p)))) ?_ ?_ 32 0 (J0, (0, -1)) (by omega) ⟨hB, Or.inl ⟨rfl, Nat.zero_le _, ⟨_, _, zwG.s0, by decide⟩, fun q hq => absurd hq (Nat.not_lt_zero q)⟩⟩
  · rintro k ⟨Ja, sa⟩ hk ⟨hBa, ⟨hsa, hgo⟩ | ⟨hk31, p, b, hp1, hp2, hsa, hno⟩⟩ ih
    · replace hsa : sa = (zap T.tt k, -1) := hsa; subst hsa; replace hBa : zB n kd I Rf T 60 Ja R1 := hBa
      replace hgo : zwR T Ja k := hgo; have hg2 := hgo.1; obtain ⟨fo, oo, hG, hfo⟩ := hgo.2.1; have hg6 := hG.2.1; have hgl := hG.1
      show eb_P _ _ 13 [(1, .int (nI k)), (0, .ref 112)] [] (n, sl, kd, (zpw Ja (zap T.tt k, -1)), L, R1) _
      refine ep_aload_n (i := 0) dX11_watch_13 rfl rfl ?_
      refine ep_callV (M1 := mX11_fine) (rest := []) dX11_watch_14 mlX11_124 mvX11_fine rfl (hF.lt (by decide)) (hF.kc (by decide) rfl) (Nat.le_of_ble_eq_true rfl) rfl (eb_b1 rfl  (q_X11_fine (I := Ja) (L := L) (d + 399) hBa.P (s := (zap T.tt k, -1)) (show zap T.tt k < 1000 by omega))) eb_rok ?_
      rintro _ _ ⟨rfl, rfl⟩
      show eb_P _ _ 17 [(1, .int (nI k)), (0, .ref 112)] (.int 1 :: []) _ _
      refine ep_if_eq (tgt := 44) dX11_watch_17 (by decide) (fun c2 => absurd c2 (by decide)) (fun c2 => ?_)
      refine ep_aload_n (i := 0) dX11_watch_20 rfl rfl ?_
      refine ep_getI dX11_watch_21 flX11_114 (hF.lt (by decide)) (hF.kc (by decide) rfl) ?_
      refine ep_topE (y := nI (zap T.tt k)) zpw_13 ?_
      refine ep_aload_n (i := 0) dX11_watch_24 rfl rfl ?_
      refine ep_getI dX11_watch_25 flX11_108 (hF.lt (by decide)) (hF.kc (by decide) rfl) ?_
      refine ep_topE (y := nI T.tx.length) ((zpw_o (by decide) (by decide)).trans hBa.P.l) ?_
      refine ep_icmp_ge (tgt := 44) dX11_watch_28 (by decide) (fun c3 => ?_) (fun c3 => ?_)
      · skip
        refine ep_aload_n (i := 0) dX11_watch_44 rfl rfl ?_
        refine ep_callV (M1 := mX11_wasRight) (rest := []) dX11_watch_45 mlX11_147 mvX11_wasRight rfl (hF.lt (by decide)) (hF.kc (by decide) rfl) (Nat.le_of_ble_eq_true rfl) rfl (q_X11_wasRight (I := Ja) (L := L) (d + 397) hBa.P (s := (zap T.tt k, -1)) (show zap T.tt k < 1000 by omega)) (fun _ _ g => Or.inl (by rw [g.1])) ?_
        by_cases hl4 : zap T.tt k < T.tx.length
        · rw [show zp_end T.tx.length (zap T.tt k, -1) = (zap T.tt k, nI (zap T.tt k)) from if_pos hl4]
          rintro _ _ ⟨rfl, ⟨hbad, rfl⟩ | ⟨_, rfl⟩⟩
          · exact absurd hbad (nI_nm1 _ (by omega))
          show eb_P _ _ 48 [(1, .int (nI k)), (0, .ref 112)] (.int 0 :: []) (n, sl, kd, (zpw Ja (zap T.tt k, nI (zap T.tt k))), L, R1) _
          refine ep_if_ne (tgt := 58) dX11_watch_48 (by decide) (fun c5 => absurd c5 (by decide)) (fun c5 => ?_)
          refine ep_iconst (v := (-1)) dX11_watch_51 (by decide) ?_
          refine ep_aload_n (i := 0) dX11_watch_52 rfl rfl ?_
          refine ep_getI dX11_watch_53 flX11_117 (hF.lt (by decide)) (hF.kc (by decide) rfl) ?_
          refine ep_topE (y := nI (zap T.tt k)) zpw_14 ?_
          refine ep_isub dX11_watch_56 ?_
          refine ep_iret dX11_watch_57 rfl rfl ?_
          exact absurd c3 (nI_ge hl4 (by omega))
        · rw [show zp_end T.tx.length (zap T.tt k, -1) = (zap T.tt k, -1) from if_neg hl4]
          rintro _ _ ⟨rfl, ⟨_, rfl⟩ | ⟨hbad, rfl⟩⟩
          rotate_left
          · exact absurd rfl hbad
          show eb_P _ _ 48 [(1, .int (nI k)), (0, .ref 112)] (.int 1 :: []) (n, sl, kd, (zpw Ja (zap T.tt k, -1)), L, R1) _
          refine ep_if_ne (tgt := 58) dX11_watch_48 (by decide) (fun c6 => ?_) (fun c6 => absurd (by decide) c6)
          have hend := hG.en hfo (by omega)
          rw [s_watch_y hend (fun j hj => (hgo.2.2 j hj).2) hl4 (by omega)]
          refine (y_watch2 d (I := zpw Ja (zap T.tt k, -1)) (Rf := R1) (I0 := zpw Ja (zap T.tt k, -1)) (L0 := L) (g := zpw Ja (zap T.tt k, -1)) (x := zpw Ja (zap T.tt k, -1) 124) (o := zpw Ja (zap T.tt k, -1) 112 25) ⟨hBa.fin hM (zap T.tt k, -1), fun _ _ => rfl, rfl, (hBa.fr (L := L) (zap T.tt k, -1)).1, fun _ _ => ⟨rfl, rfl⟩, fun _ _ => rfl, rfl⟩ hO hH (kk := k) (by omega) (fun j hj => by have := (hgo.2.2 j hj).1; unfold zac at this ⊢; rw [zpw_ne (by decide)]; exact this) f B _ _ (hBa.E (zap T.tt k, -1) hI)).to ?_
          rintro r τ ⟨I9, R9, C, hC, hE, h9⟩
          exact ⟨I9, R9, C, hC, hE, h9.bs (hBa.fr (L := L) (zap T.tt k, -1)).2⟩
      · skip
        have hlt : zap T.tt k < T.tx.length := Nat.lt_of_not_le (fun g => c3 (nI_le g (by omega)))
        refine ep_aload_n (i := 0) dX11_watch_31 rfl rfl ?_
        refine ep_iconst (v := 3) dX11_watch_32 (by decide) ?_
        refine ep_iload_n (i := 1) dX11_watch_33 rfl rfl ?_
        refine ep_imul dX11_watch_34 ?_
        refine ep_topE (y := nI (3 * k)) (nI_mul _ _) ?_
        refine ep_callV (M1 := mX11_readAct) (rest := []) dX11_watch_35 mlX11_271 mvX11_readAct rfl (hF.lt (by decide)) (hF.kc (by decide) rfl) (Nat.le_of_ble_eq_true rfl) rfl (q_X11_readAct (I := I) (J := Ja) (L := L) (d + 379) hM hO (k := k) hBa hG hfo hlt (by omega)) (fun _ _ h => Or.inl (by obtain ⟨_, J1, s1, h, _⟩ := h; rw [h])) ?_
        rintro _ _ ⟨rfl, J1, s1, rfl, hB1, hsm, ⟨rfl, hG1, hac1⟩ | ⟨p, b, hp1, hp2, rfl, hno⟩⟩
        · show eb_P _ _ 38 [(1, .int (nI k)), (0, .ref 112)] [] (n, sl, kd, zpw J1 (zap T.tt k + z_ln (z_fa (T.tt (zap T.tt k))), -1), L, R1) _
          refine ep_iinc (v := (nI (k + 1))) (l' := [(1, .int ((nI (k + 1)))), (0, .ref 112)]) dX11_watch_38 rfl (nI_1 _) (by decide) rfl ?_
          refine ep_goto (tgt := 13) dX11_watch_41 (by decide) ?_
          exact ep_eq (l2 := [(1, .int (nI (k + 1))), (0, .ref 112)]) rfl rfl rfl rfl (ih (J1, (zap T.tt k + z_ln (z_fa (T.tt (zap T.tt k))), -1)) ⟨hB1, Or.inl ⟨rfl, hgo.s hsm hlt hG1 hac1⟩⟩)
        · show eb_P _ _ 38 [(1, .int (nI k)), (0, .ref 112)] [] (n, sl, kd, zpw J1 (b, nI p), L, R1) _
          refine ep_iinc (v := (nI (k + 1))) (l' := [(1, .int ((nI (k + 1)))), (0, .ref 112)]) dX11_watch_38 rfl (nI_1 _) (by decide) rfl ?_
          refine ep_goto (tgt := 13) dX11_watch_41 (by decide) ?_
          exact ep_eq (l2 := [(1, .int (nI (k + 1))), (0, .ref 112)]) rfl rfl rfl rfl (ih (J1, (b, nI p)) ⟨hB1, Or.inr ⟨by omega, p, b, hp1, hp2, rfl, hno⟩⟩)
    · replace hsa : sa = (b, nI p) := hsa; subst hsa; replace hBa : zB n kd I Rf T 60 Ja R1 := hBa
      show eb_P _ _ 13 [(1, .int (nI k)), (0, .ref 112)] [] (n, sl, kd, (zpw Ja (b, nI p)), L, R1) _
      refine ep_aload_n (i := 0) dX11_watch_13 rfl rfl ?_
      refine ep_callV (M1 := mX11_fine) (rest := []) dX11_watch_14 mlX11_124 mvX11_fine rfl (hF.lt (by decide)) (hF.kc (by decide) rfl) (Nat.le_of_ble_eq_true rfl) rfl (eb_b0 (nI_nm1 _ (by omega)) (q_X11_fine (I := Ja) (L := L) (d + 399) hBa.P (s := (b, nI p)) (show b < 1000 by omega))) eb_rok ?_
      rintro _ _ ⟨rfl, rfl⟩
      show eb_P _ _ 17 [(1, .int (nI k)), (0, .ref 112)] (.int 0 :: []) _ _
      refine ep_if_eq (tgt := 44) dX11_watch_17 (by decide) (fun c7 => ?_) (fun c7 => absurd (by decide) c7)
      refine ep_aload_n (i := 0) dX11_watch_44 rfl rfl ?_
      refine ep_callV (M1 := mX11_wasRight) (rest := []) dX11_watch_45 mlX11_147 mvX11_wasRight rfl (hF.lt (by decide)) (hF.kc (by decide) rfl) (Nat.le_of_ble_eq_true rfl) rfl (q_X11_wasRight (I := Ja) (L := L) (d + 397) hBa.P (s := (b, nI p)) (show b < 1000 by omega)) (fun _ _ g => Or.inl (by rw [g.1])) ?_
      rw [zp_end_b (s := (b, nI p)) (p := p) rfl (by omega)]
      rintro _ _ ⟨rfl, ⟨hbad, rfl⟩ | ⟨_, rfl⟩⟩
      · exact absurd hbad (nI_nm1 _ (by omega))
      show eb_P _ _ 48 [(1, .int (nI k)), (0, .ref 112)] (.int 0 :: []) (n, sl, kd, (zpw Ja (b, nI p)), L, R1) _
      refine ep_if_ne (tgt := 58) dX11_watch_48 (by decide) (fun c8 => absurd c8 (by decide)) (fun c8 => ?_)
      refine ep_iconst (v := (-1)) dX11_watch_51 (by decide) ?_
      refine ep_aload_n (i := 0) dX11_watch_52 rfl rfl ?_
      refine ep_getI dX11_watch_53 flX11_117 (hF.lt (by decide)) (hF.kc (by decide) rfl) ?_
      refine ep_topE (y := nI p) zpw_14 ?_
      refine ep_isub dX11_watch_56 ?_
      refine ep_iret dX11_watch_57 rfl rfl ?_
      rw [s_watch_n (by omega) hno]
      exact ⟨zpw Ja (b, nI p), R1, B, rfl, hBa.E _ hI, hBa.no hM _⟩
  · rintro ⟨Ja, sa⟩ ⟨hBa, ⟨hsa, hgo⟩ | ⟨hk31, p, b, hp1, hp2, hsa, hno⟩⟩
    · have h1 := hgo.1; obtain ⟨fo, oo, hG, hfo⟩ := hgo.2.1; have h2 := hG.2.1; omega
    · exact absurd hk31 (by decide)
theorem y_X11_watch {n : Nat} {sl : Nat × Nat} {kd : Nat → Nat × Nat} {I : Nat → Nat → Int32} {L : Nat → Nat → Int64} {Rf : Nat → Nat → Option Nat} (d : Nat) {T : zT} {H : Nat} (hM : zM n kd I L Rf T) (hO : zOk H T) (hH : H ≤ 900000000) : zq mX11_watch (d + 400) [.ref 112] (n, sl, kd, I, L, Rf) (zpM n sl kd I L Rf (some (.int (s_watch T).1)) (s_watch T).2) := zq_of_MZ hM (fun f B I7 R7 hI h => q_X11_watch d h hO hH f B hI)
