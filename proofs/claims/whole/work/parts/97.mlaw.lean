/-! the reference: law -/
theorem zpt_n16 : ∀ p ∈ zpt, ¬ (p.1 = 112 ∧ p.2.1 = 16) := by decide +kernel
theorem zF.p16 {n : Nat} {kd : Nat → Nat × Nat} {Rf : Nat → Nat → Option Nat} {v : Option Nat} (h : zF n kd Rf) : zF n kd (va_up Rf 112 (va_up (Rf 112) 16 v)) := by
  refine ⟨h.1, h.2.1, h.2.2.1, fun k p e => ?_⟩
  have hn := zpt_n16 p (List.mem_of_getElem? e)
  have h0 := h.2.2.2 k p e
  by_cases e1 : p.1 = 112
  · rw [e1] at h0 ⊢
    have e2 : ¬ p.2.1 = 16 := fun g => hn ⟨e1, g⟩
    simp [va_up, e2]; exact h0
  · simp [va_up, e1]; exact h0
theorem va16 {Rf : Nat → Nat → Option Nat} {v : Option Nat} : va_up Rf 112 (va_up (Rf 112) 16 v) 112 16 = v := by simp [va_up]
theorem va_bk {Rf : Nat → Nat → Option Nat} {u v : Option Nat} (h : Rf 112 16 = v) : va_up (va_up Rf 112 (va_up (Rf 112) 16 u)) 112 (va_up (va_up Rf 112 (va_up (Rf 112) 16 u) 112) 16 v) = Rf := by
  funext a b
  by_cases e1 : a = 112
  · subst e1
    by_cases e2 : b = 16
    · subst e2; simp [va_up]; exact h.symm
    · simp [va_up, e2]
  · simp [va_up, e1]
theorem zQ.lb {n : Nat} {kd : Nat → Nat × Nat} {I0 g I J : Nat → Nat → Int32} {L0 L : Nat → Nat → Int64} {Rf : Nat → Nat → Option Nat} {T : zT} {x y : Nat → Int32} {o q : Int32} (h : zQ n kd I0 L0 Rf g I L T x o) (hc : ∀ c, c ≠ 112 → c ≠ 120 → c ≠ 124 → J c = I c) (hf : ∀ k, k ≠ 25 → J 112 k = I 112 k) (hx : ∀ k, k < 26 → J 124 k = y k) (ho : J 112 25 = q) : zQ n kd I0 L0 Rf (fun c => if c = 120 then J 120 else g c) J L T y q := by
  refine ⟨h.M.fr h.M.F (fun c h1 _ h3 _ _ h6 _ _ _ _ => hc c h1 h3 h6) (fun k hk => hf k (by omega)) rfl rfl, hx, ho, (hf 9 (by decide)).trans h.t, fun c hh => ⟨(hc c (by omega) (by omega) (by omega)).trans (h.f c hh).1, (h.f c hh).2⟩, fun c hg => ?_, ?_⟩
  · show J c = if c = 120 then J 120 else g c
    by_cases e : c = 120
    · rw [if_pos e, e]
    · rw [if_neg e, hc c (by unfold zgc at hg; omega) e (by unfold zgc at hg; omega)]; exact h.g.1 c hg
  · show J 112 37 = (if (112 : Nat) = 120 then J 120 else g 112) 37
    rw [if_neg (by decide), hf 37 (by decide)]; exact h.g.2
/-- another rule, for a while -/
def zT2 (T : zT) : zT := T.w_rv (zrvM (ztby T) T.tx.length)
def s_lawy (T : zT) : Int32 × zT := ((zhk (zT2 T) T.x 20) 23 - T.x 23 - ((zhk T T.x 20) 23 - T.x 23), (T.w_tx []).w_rw [((zhk (zT2 T) T.x 20) 23 - T.x 23).toInt64, ((zhk T T.x 20) 23 - T.x 23).toInt64, (100 + (zhk (zT2 T) T.x 20) 22).toInt64, (100 + (zhk T T.x 20) 22).toInt64])
def s_law (T : zT) : Int32 × zT := if zrdM (ztby T) T.tx.length = -1 then s_lawy T else (-100000 - zrdM (ztby T) T.tx.length, T.w_tx [])
theorem y_law2 {n : Nat} {sl : Nat × Nat} {kd : Nat → Nat × Nat} {I : Nat → Nat → Int32} {L : Nat → Nat → Int64} {Rf : Nat → Nat → Option Nat} (d : Nat) {T : zT} {H : Nat} {I0 g : Nat → Nat → Int32} {L0 : Nat → Nat → Int64} {x : Nat → Int32} {o : Int32} (hQ : zQ n kd I0 L0 Rf g I L (T.w_tx []) x o) (hO : zOk H T) (hH : H ≤ 1000000000) (hm : T.tx.length ≤ 40) (ht : ∀ k, k < T.tx.length → I 116 k = ztby T k) (f : Nat) (B : Nat → Int32) : ez_P f B f (fun C => C = B) mX11_law (d + 400) 26 [(1, .int (nI T.tx.length)), (0, .ref 112)] [] (n, sl, kd, I, L, Rf) (zpM n sl kd I0 L0 Rf (some (.int (s_lawy T).1)) (s_lawy T).2) := by
  have hF := hQ.M.F; have hc7 := hO.c
  refine ez_aload_n (i := 0) dX11_law_26 rfl rfl ?_
  refine ez_bipush (v := 20) dX11_law_27 (by decide) ?_
  refine ez_callV (M1 := mX11_goThen) (rest := []) dX11_law_29 mlX11_280 mvX11_goThen rfl (hF.lt (by decide)) (hF.kc (by decide) rfl) (Nat.le_of_ble_eq_true rfl) rfl (y_X11_goThen (I := I) (N := 20) (d + 87) (hQ.M.W.to (T1 := T) rfl rfl rfl rfl rfl) hc7 hQ.M.x hO.x (by omega) (by omega) hO.wm hO.wd) zpH_ok ?_
  rintro _ _ ⟨rfl, I1, rfl, hq2⟩
  show ez_P _ _ _ _ _ _ 32 [(1, .int (nI T.tx.length)), (0, .ref 112)] [] (n, sl, kd, I1, L, Rf) _
  have hQ3 : zQ n kd I0 L0 Rf g I1 L (T.w_tx []) (zhk T T.x 20) (zhc T T.x 20) := by exact hQ.hp hq2
  have ht1 : ∀ k, k < T.tx.length → I1 116 k = ztby T k := fun k hk => by rw [hq2.2.2.1 116 (by decide) (by decide)]; exact ht k hk
  obtain ⟨s0, hs0, h18, -⟩ := hQ3.M.rv
  refine ez_aload_n (i := 0) dX11_law_32 rfl rfl ?_
  refine ez_getR dX11_law_33 flX11_49 (hF.lt (by decide)) (hF.kc (by decide) rfl) (hF.pt 117 rfl) ?_
  refine ez_bipush (v := 23) dX11_law_36 (by decide) ?_
  refine ez_iaN (k := 23) dX11_law_38 (hF.lt (by decide)) (hF.ka (by decide) rfl) (by omega) (by decide) ?_
  refine ez_topE (y := (zhk T T.x 20) 23) (hQ3.x _ (by decide)) ?_
  refine ez_aload_n (i := 0) dX11_law_39 rfl rfl ?_
  refine ez_getR dX11_law_40 flX11_9 (hF.lt (by decide)) (hF.kc (by decide) rfl) (hF.pt 107 rfl) ?_
  refine ez_bipush (v := 23) dX11_law_43 (by decide) ?_
  refine ez_iaN (k := 23) dX11_law_45 (hF.lt (by decide)) (hF.ka (by decide) rfl) (by omega) (by decide) ?_
  refine ez_topE (y := T.x 23) (hQ3.M.x _ (by decide)) ?_
  refine ez_isub dX11_law_46 ?_
  refine ez_istore_n (l' := [(2, .int (((zhk T T.x 20) 23) - (T.x 23))), (1, .int (nI T.tx.length)), (0, .ref 112)]) dX11_law_47 rfl (by decide) rfl ?_
  refine ez_aload_n (i := 0) dX11_law_48 rfl rfl ?_
  refine ez_getR dX11_law_49 flX11_49 (hF.lt (by decide)) (hF.kc (by decide) rfl) (hF.pt 117 rfl) ?_
  refine ez_bipush (v := 22) dX11_law_52 (by decide) ?_
  refine ez_iaN (k := 22) dX11_law_54 (hF.lt (by decide)) (hF.ka (by decide) rfl) (by omega) (by decide) ?_
  refine ez_topE (y := (zhk T T.x 20) 22) (hQ3.x _ (by decide)) ?_
  refine ez_istore_n (l' := [(3, .int ((zhk T T.x 20) 22)), (2, .int (((zhk T T.x 20) 23) - (T.x 23))), (1, .int (nI T.tx.length)), (0, .ref 112)]) dX11_law_55 rfl (by decide) rfl ?_
  refine ez_aload_n (i := 0) dX11_law_56 rfl rfl ?_
  refine ez_getR dX11_law_57 flX11_34 (hF.lt (by decide)) (hF.kc (by decide) rfl) hQ3.M.ru ?_
  refine ez_astore (l' := [(4, .ref 119), (3, .int ((zhk T T.x 20) 22)), (2, .int (((zhk T T.x 20) 23) - (T.x 23))), (1, .int (nI T.tx.length)), (0, .ref 112)]) dX11_law_60 (by decide) rfl ?_
  refine ez_aload_n (i := 0) dX11_law_62 rfl rfl ?_
  refine ez_getI dX11_law_63 flX11_189 (hF.lt (by decide)) (hF.kc (by decide) rfl) ?_
  refine ez_topE (y := nI s0) h18 ?_
  refine ez_istore (l' := [(5, .int (nI s0)), (4, .ref 119), (3, .int ((zhk T T.x 20) 22)), (2, .int (((zhk T T.x 20) 23) - (T.x 23))), (1, .int (nI T.tx.length)), (0, .ref 112)]) dX11_law_66 (by decide) rfl ?_
  refine ez_aload_n (i := 0) dX11_law_68 rfl rfl ?_
  refine ez_aload_n (i := 0) dX11_law_69 rfl rfl ?_
  refine ez_getR dX11_law_70 flX11_37 (hF.lt (by decide)) (hF.kc (by decide) rfl) (hF.pt 113 rfl) ?_
  refine ez_putR dX11_law_73 plX11_34 (fun h => by cases h) (hF.lt (by decide)) (hF.kc (by decide) rfl) (Or.inl (hF.lt (by decide))) ?_
  refine ez_nmR (fun R4 hR4 => ?_)
  have hF0 := hF
  have hF : zF n kd R4 := by rw [hR4]; exact hF0.p16
  have h16 : R4 112 16 = some 120 := by rw [hR4]; exact va16
  refine ez_aload_n (i := 0) dX11_law_76 rfl rfl ?_
  refine ez_iload_n (i := 1) dX11_law_77 rfl rfl ?_
  refine ez_pI dX11_law_78 plX11_189 (hF.lt (by decide)) (hF.lx (by decide)) (hF.kc (by decide) rfl) rfl rfl ?_
  refine ez_nmI (fun I5 hI5 => ?_)
  refine ez_iconst (v := 0) dX11_law_81 (by decide) ?_
  refine ez_istore (l' := [(6, .int 0), (5, .int (nI s0)), (4, .ref 119), (3, .int ((zhk T T.x 20) 22)), (2, .int (((zhk T T.x 20) 23) - (T.x 23))), (1, .int (nI T.tx.length)), (0, .ref 112)]) dX11_law_82 (by decide) rfl ?_
  refine ez_eq (l2 := [(6, .int (nI 0)), (5, .int (nI s0)), (4, .ref 119), (3, .int ((zhk T T.x 20) 22)), (2, .int (((zhk T T.x 20) 23) - (T.x 23))), (1, .int (nI T.tx.length)), (0, .ref 112)]) (σ2 := (n, sl, kd, I5, L, R4)) rfl (by rw [nI_0]) rfl rfl ?_
  refine ez_for T.tx.length (fun k (a : Nat → Nat → Int32) => ([(6, .int (nI k)), (5, .int (nI s0)), (4, .ref 119), (3, .int ((zhk T T.x 20) 22)), (2, .int (((zhk T T.x 20) 23) - (T.x 23))), (1, .int (nI T.tx.length)), (0, .ref 112)], (n, sl, kd, a, L, R4))) (fun k a => (∀ c, c ≠ 120 → a c = I5 c) ∧ ∀ q, q < k → a 120 q = ztby T q) ?_ ?_ T.tx.length 0 I5 (by omega) ⟨fun _ _ => rfl, fun q hq => absurd hq (Nat.not_lt_zero q)⟩
  · rintro k Ka hk ⟨hKa, hKb⟩ ih
    show ez_P _ _ _ _ _ _ 84 [(6, .int (nI k)), (5, .int (nI s0)), (4, .ref 119), (3, .int ((zhk T T.x 20) 22)), (2, .int (((zhk T T.x 20) 23) - (T.x 23))), (1, .int (nI T.tx.length)), (0, .ref 112)] [] (n, sl, kd, Ka, L, R4) _
    refine ez_iload (i := 6) dX11_law_84 rfl ?_
    refine ez_iload_n (i := 1) dX11_law_86 rfl rfl ?_
    refine ez_icmp_ge (tgt := 110) dX11_law_87 (by decide) (fun c6 => absurd c6 (nI_ge hk (by omega))) (fun c6 => ?_)
    refine ez_aload_n (i := 0) dX11_law_90 rfl rfl ?_
    refine ez_getR dX11_law_91 flX11_34 (hF.lt (by decide)) (hF.kc (by decide) rfl) h16 ?_
    refine ez_iload (i := 6) dX11_law_94 rfl ?_
    refine ez_aload_n (i := 0) dX11_law_96 rfl rfl ?_
    refine ez_getR dX11_law_97 flX11_23 (hF.lt (by decide)) (hF.kc (by decide) rfl) (hF.pt 110 rfl) ?_
    refine ez_iload (i := 6) dX11_law_100 rfl ?_
    refine ez_baN (k := k) dX11_law_102 (hF.lt (by decide)) (hF.ka (by decide) rfl) (by omega) (by decide) ?_
    refine ez_bsN (k := k) dX11_law_103 (hF.lt (by decide)) (hF.lx (by decide)) (hF.ka (by decide) rfl) (by omega) (by decide) ?_
    refine ez_nmI (fun I7 hI7 => ?_)
    refine ez_iinc (v := (nI (k + 1))) (l' := [(6, .int ((nI (k + 1)))), (5, .int (nI s0)), (4, .ref 119), (3, .int ((zhk T T.x 20) 22)), (2, .int (((zhk T T.x 20) 23) - (T.x 23))), (1, .int (nI T.tx.length)), (0, .ref 112)]) dX11_law_104 rfl (nI_1 _) (by decide) rfl ?_
    refine ez_goto (tgt := 84) dX11_law_107 (by decide) ?_
    exact ez_eq (l2 := [(6, .int (nI (k + 1))), (5, .int (nI s0)), (4, .ref 119), (3, .int ((zhk T T.x 20) 22)), (2, .int (((zhk T T.x 20) 23) - (T.x 23))), (1, .int (nI T.tx.length)), (0, .ref 112)]) rfl rfl rfl rfl (ih I7 ⟨fun c hc => by rw [hI7, z_set_ne hc]; exact hKa c hc, fun q hq => by rw [hI7]; by_cases e : q = k; rw [e, z_set_at, hKa 116 (by decide), hI5, z_set_ne (by decide), ht1 k hk]; exact z_n88 _; rw [z_set_nk e]; exact hKb q (by omega)⟩)
  · rintro Ka ⟨hKa, hKb⟩
    show ez_P _ _ _ _ _ _ 84 [(6, .int (nI T.tx.length)), (5, .int (nI s0)), (4, .ref 119), (3, .int ((zhk T T.x 20) 22)), (2, .int (((zhk T T.x 20) 23) - (T.x 23))), (1, .int (nI T.tx.length)), (0, .ref 112)] [] (n, sl, kd, Ka, L, R4) _
    refine ez_iload (i := 6) dX11_law_84 rfl ?_
    refine ez_iload_n (i := 1) dX11_law_86 rfl rfl ?_
    refine ez_icmp_ge (tgt := 110) dX11_law_87 (by decide) (fun c8 => ?_) (fun c8 => absurd (nI_le (Nat.le_refl _) (by omega)) c8)
    have hcc : ∀ c, c ≠ 112 → c ≠ 120 → Ka c = I1 c := fun c h1 h2 => by rw [hKa c h2, hI5, z_set_ne h1]
    have hff : ∀ k, k ≠ 18 → Ka 112 k = I1 112 k := fun k hk => by rw [hKa 112 (by decide), hI5, z_set_nk hk]
    have hx2 : ∀ k, k < 26 → Ka 113 k = T.x k := fun k hk => by rw [hcc 113 (by decide) (by decide)]; exact hQ3.M.x k hk
    have hW2 : zW n kd Ka R4 (zT2 T) := ⟨hF, ⟨120, Or.inr rfl, h16, T.tx.length, hm, by rw [hKa 112 (by decide), hI5, z_set_at], fun k hk => by rw [hKb k hk]; obtain ⟨v, hv, e⟩ := hO.tx k hk; exact ⟨v, hv, by unfold ztby; rw [e]⟩, fun th => by rw [zrv_cg hKb]; rfl⟩, by rw [hcc 114 (by decide) (by decide)]; exact hQ3.M.pr, by rw [hff 4 (by decide)]; exact hQ3.M.wm, by rw [hcc 115 (by decide) (by decide)]; exact hQ3.M.wd, by rw [hff 1 (by decide)]; exact hQ3.M.c⟩
    refine ez_aload_n (i := 0) dX11_law_110 rfl rfl ?_
    refine ez_bipush (v := 20) dX11_law_111 (by decide) ?_
    refine ez_callV (M1 := mX11_goThen) (rest := []) dX11_law_113 mlX11_280 mvX11_goThen rfl (hF.lt (by decide)) (hF.kc (by decide) rfl) (Nat.le_of_ble_eq_true rfl) rfl (y_X11_goThen (T := zT2 T) (I := Ka) (N := 20) (d + 87) hW2 hc7 (x := T.x) hx2 hO.x (by omega) (by omega) hO.wm hO.wd) zpH_ok ?_
    rintro _ _ ⟨rfl, J9, rfl, hq9⟩
    show ez_P _ _ _ _ _ _ 116 [(6, .int (nI T.tx.length)), (5, .int (nI s0)), (4, .ref 119), (3, .int ((zhk T T.x 20) 22)), (2, .int (((zhk T T.x 20) 23) - (T.x 23))), (1, .int (nI T.tx.length)), (0, .ref 112)] [] (n, sl, kd, J9, L, R4) _
    refine ez_aload_n (i := 0) dX11_law_116 rfl rfl ?_
    refine ez_aload (i := 4) dX11_law_117 rfl ?_
    refine ez_putR dX11_law_119 plX11_34 (fun h => by cases h) (hF.lt (by decide)) (hF.kc (by decide) rfl) (Or.inl (hF.lt (by decide))) ?_
    refine ez_nmR (fun R9 hR9 => ?_)
    have hRR : R9 = Rf := by rw [hR9, hR4]; exact va_bk hQ3.M.ru
    refine ez_eq (σ2 := (n, sl, kd, J9, L, Rf)) rfl rfl rfl (by rw [hRR]) ?_
    have hF := hF0
    refine ez_aload_n (i := 0) dX11_law_122 rfl rfl ?_
    refine ez_iload (i := 5) dX11_law_123 rfl ?_
    refine ez_pI dX11_law_125 plX11_189 (hF.lt (by decide)) (hF.lx (by decide)) (hF.kc (by decide) rfl) rfl rfl ?_
    refine ez_nmI (fun I10 hI10 => ?_)
    have hQ9 : zQ n kd I0 L0 Rf (fun c => if c = 120 then I10 120 else g c) I10 L (T.w_tx []) (zhk (zT2 T) T.x 20) (zhc (zT2 T) T.x 20) := hQ3.lb (fun c h1 h2 h3 => by rw [hI10, z_set_ne h1, hq9.2.2.1 c h3 h1]; exact hcc c h1 h2) (fun k hk => by rw [hI10]; by_cases e : k = 18; rw [e, z_set_at]; exact h18.symm; rw [z_set_nk e, hq9.2.2.2 k hk]; exact hff k e) (fun k hk => by rw [hI10, z_set_ne (by decide)]; exact hq9.1 k hk) (by rw [hI10, z_set_nk (by decide)]; exact hq9.2.1)
    refine ez_aload_n (i := 0) dX11_law_128 rfl rfl ?_
    refine ez_getR dX11_law_129 flX11_49 (hF.lt (by decide)) (hF.kc (by decide) rfl) (hF.pt 117 rfl) ?_
    refine ez_bipush (v := 23) dX11_law_132 (by decide) ?_
    refine ez_iaN (k := 23) dX11_law_134 (hF.lt (by decide)) (hF.ka (by decide) rfl) (by omega) (by decide) ?_
    refine ez_topE (y := (zhk (zT2 T) T.x 20) 23) (hQ9.x _ (by decide)) ?_
    refine ez_aload_n (i := 0) dX11_law_135 rfl rfl ?_
    refine ez_getR dX11_law_136 flX11_9 (hF.lt (by decide)) (hF.kc (by decide) rfl) (hF.pt 107 rfl) ?_
    refine ez_bipush (v := 23) dX11_law_139 (by decide) ?_
    refine ez_iaN (k := 23) dX11_law_141 (hF.lt (by decide)) (hF.ka (by decide) rfl) (by omega) (by decide) ?_
    refine ez_topE (y := T.x 23) (hQ9.M.x _ (by decide)) ?_
    refine ez_isub dX11_law_142 ?_
    refine ez_istore (l' := [(6, .int (((zhk (zT2 T) T.x 20) 23) - (T.x 23))), (5, .int (nI s0)), (4, .ref 119), (3, .int ((zhk T T.x 20) 22)), (2, .int (((zhk T T.x 20) 23) - (T.x 23))), (1, .int (nI T.tx.length)), (0, .ref 112)]) dX11_law_143 (by decide) rfl ?_
    refine ez_aload_n (i := 0) dX11_law_145 rfl rfl ?_
    refine ez_iconst (v := 0) dX11_law_146 (by decide) ?_
    refine ez_pI dX11_law_147 plX11_92 (hF.lt (by decide)) (hF.lx (by decide)) (hF.kc (by decide) rfl) rfl rfl ?_
    refine ez_nmI (fun I11 hI11 => ?_)
    have hQ12 : zQ n kd I0 L0 Rf (fun c => if c = 120 then I10 120 else g c) I11 L ((T.w_tx []).w_rw []) (zhk (zT2 T) T.x 20) (zhc (zT2 T) T.x 20) := by rw [hI11]; exact hQ9.row0
    refine ez_aload_n (i := 0) dX11_law_150 rfl rfl ?_
    refine ez_iload (i := 6) dX11_law_151 rfl ?_
    refine ez_i2l dX11_law_153 rfl ?_
    refine ez_callV (M1 := mX11_tell) (rest := []) dX11_law_154 mlX11_252 mvX11_tell rfl (hF.lt (by decide)) (hF.kc (by decide) rfl) (Nat.le_of_ble_eq_true rfl) rfl (y_X11_tell (I := I11) (L := L) (d + 399) hF (k := 0) hQ12.M.rw.1 (by decide) ((((zhk (zT2 T) T.x 20) 23) - (T.x 23)).toInt64)) (eb_vok rfl) ?_
    rintro _ _ ⟨rfl, rfl⟩
    refine ez_nmI (fun I13 hI13 => ?_)
    refine ez_nmL (fun L14 hL14 => ?_)
    show ez_P _ _ _ _ _ _ 157 [(6, .int (((zhk (zT2 T) T.x 20) 23) - (T.x 23))), (5, .int (nI s0)), (4, .ref 119), (3, .int ((zhk T T.x 20) 22)), (2, .int (((zhk T T.x 20) 23) - (T.x 23))), (1, .int (nI T.tx.length)), (0, .ref 112)] [] (n, sl, kd, I13, L14, Rf) _
    have hQ15 : zQ n kd I0 L0 Rf (fun c => if c = 120 then I10 120 else g c) I13 L14 ((T.w_tx []).w_rw [(((zhk (zT2 T) T.x 20) 23) - (T.x 23)).toInt64]) (zhk (zT2 T) T.x 20) (zhc (zT2 T) T.x 20) := by rw [hI13, hL14]; exact hQ12.tell ((((zhk (zT2 T) T.x 20) 23) - (T.x 23)).toInt64)
    refine ez_aload_n (i := 0) dX11_law_157 rfl rfl ?_
    refine ez_iload_n (i := 2) dX11_law_158 rfl rfl ?_
    refine ez_i2l dX11_law_159 rfl ?_
    refine ez_callV (M1 := mX11_tell) (rest := []) dX11_law_160 mlX11_252 mvX11_tell rfl (hF.lt (by decide)) (hF.kc (by decide) rfl) (Nat.le_of_ble_eq_true rfl) rfl (y_X11_tell (I := I13) (L := L14) (d + 399) hF (k := 1) hQ15.M.rw.1 (by decide) ((((zhk T T.x 20) 23) - (T.x 23)).toInt64)) (eb_vok rfl) ?_
    rintro _ _ ⟨rfl, rfl⟩
    refine ez_nmI (fun I16 hI16 => ?_)
    refine ez_nmL (fun L17 hL17 => ?_)
    show ez_P _ _ _ _ _ _ 163 [(6, .int (((zhk (zT2 T) T.x 20) 23) - (T.x 23))), (5, .int (nI s0)), (4, .ref 119), (3, .int ((zhk T T.x 20) 22)), (2, .int (((zhk T T.x 20) 23) - (T.x 23))), (1, .int (nI T.tx.length)), (0, .ref 112)] [] (n, sl, kd, I16, L17, Rf) _
    have hQ18 : zQ n kd I0 L0 Rf (fun c => if c = 120 then I10 120 else g c) I16 L17 ((T.w_tx []).w_rw [(((zhk (zT2 T) T.x 20) 23) - (T.x 23)).toInt64, (((zhk T T.x 20) 23) - (T.x 23)).toInt64]) (zhk (zT2 T) T.x 20) (zhc (zT2 T) T.x 20) := by rw [hI16, hL17]; exact hQ15.tell ((((zhk T T.x 20) 23) - (T.x 23)).toInt64)
    refine ez_aload_n (i := 0) dX11_law_163 rfl rfl ?_
    refine ez_bipush (v := 100) dX11_law_164 (by decide) ?_
    refine ez_aload_n (i := 0) dX11_law_166 rfl rfl ?_
    refine ez_getR dX11_law_167 flX11_49 (hF.lt (by decide)) (hF.kc (by decide) rfl) (hF.pt 117 rfl) ?_
    refine ez_bipush (v := 22) dX11_law_170 (by decide) ?_
    refine ez_iaN (k := 22) dX11_law_172 (hF.lt (by decide)) (hF.ka (by decide) rfl) (by omega) (by decide) ?_
    refine ez_topE (y := (zhk (zT2 T) T.x 20) 22) (hQ18.x _ (by decide)) ?_
    refine ez_iadd dX11_law_173 ?_
    refine ez_i2l dX11_law_174 rfl ?_
    refine ez_callV (M1 := mX11_tell) (rest := []) dX11_law_175 mlX11_252 mvX11_tell rfl (hF.lt (by decide)) (hF.kc (by decide) rfl) (Nat.le_of_ble_eq_true rfl) rfl (y_X11_tell (I := I16) (L := L17) (d + 399) hF (k := 2) hQ18.M.rw.1 (by decide) ((100 + ((zhk (zT2 T) T.x 20) 22)).toInt64)) (eb_vok rfl) ?_
    rintro _ _ ⟨rfl, rfl⟩
    refine ez_nmI (fun I19 hI19 => ?_)
    refine ez_nmL (fun L20 hL20 => ?_)
    show ez_P _ _ _ _ _ _ 178 [(6, .int (((zhk (zT2 T) T.x 20) 23) - (T.x 23))), (5, .int (nI s0)), (4, .ref 119), (3, .int ((zhk T T.x 20) 22)), (2, .int (((zhk T T.x 20) 23) - (T.x 23))), (1, .int (nI T.tx.length)), (0, .ref 112)] [] (n, sl, kd, I19, L20, Rf) _
    have hQ21 : zQ n kd I0 L0 Rf (fun c => if c = 120 then I10 120 else g c) I19 L20 ((T.w_tx []).w_rw [(((zhk (zT2 T) T.x 20) 23) - (T.x 23)).toInt64, (((zhk T T.x 20) 23) - (T.x 23)).toInt64, (100 + ((zhk (zT2 T) T.x 20) 22)).toInt64]) (zhk (zT2 T) T.x 20) (zhc (zT2 T) T.x 20) := by rw [hI19, hL20]; exact hQ18.tell ((100 + ((zhk (zT2 T) T.x 20) 22)).toInt64)
    refine ez_aload_n (i := 0) dX11_law_178 rfl rfl ?_
    refine ez_bipush (v := 100) dX11_law_179 (by decide) ?_
    refine ez_iload_n (i := 3) dX11_law_181 rfl rfl ?_
    refine ez_iadd dX11_law_182 ?_
    refine ez_i2l dX11_law_183 rfl ?_
    refine ez_callV (M1 := mX11_tell) (rest := []) dX11_law_184 mlX11_252 mvX11_tell rfl (hF.lt (by decide)) (hF.kc (by decide) rfl) (Nat.le_of_ble_eq_true rfl) rfl (y_X11_tell (I := I19) (L := L20) (d + 399) hF (k := 3) hQ21.M.rw.1 (by decide) ((100 + ((zhk T T.x 20) 22)).toInt64)) (eb_vok rfl) ?_
    rintro _ _ ⟨rfl, rfl⟩
    refine ez_nmI (fun I22 hI22 => ?_)
    refine ez_nmL (fun L23 hL23 => ?_)
    show ez_P _ _ _ _ _ _ 187 [(6, .int (((zhk (zT2 T) T.x 20) 23) - (T.x 23))), (5, .int (nI s0)), (4, .ref 119), (3, .int ((zhk T T.x 20) 22)), (2, .int (((zhk T T.x 20) 23) - (T.x 23))), (1, .int (nI T.tx.length)), (0, .ref 112)] [] (n, sl, kd, I22, L23, Rf) _
    have hQ24 : zQ n kd I0 L0 Rf (fun c => if c = 120 then I10 120 else g c) I22 L23 ((T.w_tx []).w_rw [(((zhk (zT2 T) T.x 20) 23) - (T.x 23)).toInt64, (((zhk T T.x 20) 23) - (T.x 23)).toInt64, (100 + ((zhk (zT2 T) T.x 20) 22)).toInt64, (100 + ((zhk T T.x 20) 22)).toInt64]) (zhk (zT2 T) T.x 20) (zhc (zT2 T) T.x 20) := by rw [hI22, hL23]; exact hQ21.tell ((100 + ((zhk T T.x 20) 22)).toInt64)
    refine ez_iload (i := 6) dX11_law_187 rfl ?_
    refine ez_iload_n (i := 2) dX11_law_189 rfl rfl ?_
    refine ez_isub dX11_law_190 ?_
    refine ez_iret dX11_law_191 rfl rfl ?_
    exact hQ24.end
theorem zB.E9 {n : Nat} {kd : Nat → Nat × Nat} {I J : Nat → Nat → Int32} {Rf R1 : Nat → Nat → Option Nat} {T : zT} {tp f : Nat} {B : Nat → Int32} (h : zB n kd I Rf T tp J R1) (s : zps) (hI : zInv f B I) : zE f B (zpw (z_set J 112 19 0) s) (zpw (z_set J 112 19 0) s) R1 R1 := by
  have hc : ∀ c, c < 112 → zpw (z_set J 112 19 0) s c = I c := fun c hc => (zpw_ne (by omega)).trans ((z_set_ne (by omega)).trans (h.c c (by omega) (by omega) (by omega)))
  exact ⟨fun _ _ _ => rfl, fun _ _ _ => rfl, hI.cg (by rw [hc 5 (by decide)]) (hc 19 (by decide)) (hc 20 (by decide))⟩
theorem q_X11_law {n : Nat} {sl : Nat × Nat} {kd : Nat → Nat × Nat} {I : Nat → Nat → Int32} {L : Nat → Nat → Int64} {Rf : Nat → Nat → Option Nat} (d : Nat) {T : zT} {H : Nat} (hM : zM n kd I L Rf T) (hO : zOk H T) (hH : H ≤ 1000000000) (f : Nat) (B : Nat → Int32) (hI : zInv f B I): eb_Q mX11_law (d + 400) [.ref 112] (n, sl, kd, I, L, Rf) (zΦ f (fun C => C = B) (zpM n sl kd I L Rf (some (.int (s_law T).1)) (s_law T).2)) := by
  have hF := hM.F; have hc7 := hO.c; have hx8 := hO.txl
  refine ep_meth pn_X.2.2.2.2.2.2.2.2.2.2.2 (Nat.le_of_ble_eq_true rfl) ?_
  show eb_P _ _ 0 [(0, .ref 112)] [] (n, sl, kd, I, L, Rf) _
  refine ep_aload_n (i := 0) dX11_law_0 rfl rfl ?_
  refine ep_iconst (v := 0) dX11_law_1 (by decide) ?_
  refine ep_pI dX11_law_2 plX11_89 (hF.lt (by decide)) (hF.lx (by decide)) (hF.kc (by decide) rfl) rfl rfl ?_
  refine ep_nmI (fun I1 hI1 => ?_)
  subst hI1
  refine ep_aload_n (i := 0) dX11_law_5 rfl rfl ?_
  refine ep_getI dX11_law_6 flX11_102 (hF.lt (by decide)) (hF.kc (by decide) rfl) ?_
  refine ep_topE (y := nI T.tx.length) (by rw [z_set_nk (by decide)]; exact hM.tx.1) ?_
  refine ep_istore_n (l' := [(1, .int (nI T.tx.length)), (0, .ref 112)]) dX11_law_9 rfl (by decide) rfl ?_
  refine ep_aload_n (i := 0) dX11_law_10 rfl rfl ?_
  refine ep_callV (M1 := mX11_readRule) (rest := []) dX11_law_11 mlX11_186 mvX11_readRule rfl (hF.lt (by decide)) (hF.kc (by decide) rfl) (Nat.le_of_ble_eq_true rfl) rfl (k_rr (I := I) (L := L) (d + 87) hM hO) zpR_ok ?_
  rintro _ _ ⟨J, R1, sp, rfl, hB, hs2, ⟨hrd, rfl⟩ | ⟨hrd, rfl⟩⟩
  · replace hF := hB.P.F
    rw [zrd_cg hM.tb] at hs2
    rw [hs2] at hrd
    show eb_P _ _ 14 [(1, .int (nI T.tx.length)), (0, .ref 112)] (.int 1 :: []) (n, sl, kd, (zpw (z_set J 112 19 0) sp), L, R1) _
    refine ep_if_ne (tgt := 26) dX11_law_14 (by decide) (fun c2 => ?_) (fun c2 => absurd (by decide) c2)
    rw [show s_law T = s_lawy T from by unfold s_law; rw [if_pos hrd]]
    refine (y_law2 d (I := (zpw (z_set J 112 19 0) sp)) (Rf := R1) (I0 := (zpw (z_set J 112 19 0) sp)) (L0 := L) (g := (zpw (z_set J 112 19 0) sp)) (x := (zpw (z_set J 112 19 0) sp) 124) (o := (zpw (z_set J 112 19 0) sp) 112 25) ⟨hB.fin9 hM sp, fun _ _ => rfl, rfl, (hB.fr9 (L := L) sp).1, fun _ _ => ⟨rfl, rfl⟩, fun _ _ => rfl, rfl⟩ hO hH (zrd_40 hrd) (fun k hk => by rw [zpw_ne (by decide), z_set_ne (by decide), hB.c 116 (by decide) (by decide) (by decide), hM.tb k hk]) f B _ _ (hB.E9 sp hI)).to ?_
    rintro r τ ⟨I9, R9, C, hC, hE, h9⟩
    exact ⟨I9, R9, C, hC, hE, h9.bs (hB.fr9 (L := L) sp).2⟩
  · replace hF := hB.P.F
    rw [zrd_cg hM.tb] at hs2
    rw [hs2] at hrd
    show eb_P _ _ 14 [(1, .int (nI T.tx.length)), (0, .ref 112)] (.int 0 :: []) (n, sl, kd, (zpw (z_set J 112 19 0) sp), L, R1) _
    refine ep_if_ne (tgt := 26) dX11_law_14 (by decide) (fun c3 => absurd c3 (by decide)) (fun c3 => ?_)
    refine ep_ldcw (v := (-100000)) dX11_law_17 kcX11_373 ?_
    refine ep_aload_n (i := 0) dX11_law_20 rfl rfl ?_
    refine ep_getI dX11_law_21 flX11_117 (hF.lt (by decide)) (hF.kc (by decide) rfl) ?_
    refine ep_topE (y := zrdM (ztby T) T.tx.length) (by rw [zpw_14]; exact hs2) ?_
    refine ep_isub dX11_law_24 ?_
    refine ep_iret dX11_law_25 rfl rfl ?_
    rw [show s_law T = (-100000 - zrdM (ztby T) T.tx.length, T.w_tx []) from by unfold s_law; rw [if_neg hrd]]
    exact ⟨(zpw (z_set J 112 19 0) sp), R1, B, rfl, hB.E9 sp hI, rfl, _, _, _, rfl, hB.fin9 hM sp, (hB.fr9 (L := L) sp).1, (hB.fr9 sp).2⟩
theorem y_X11_law {n : Nat} {sl : Nat × Nat} {kd : Nat → Nat × Nat} {I : Nat → Nat → Int32} {L : Nat → Nat → Int64} {Rf : Nat → Nat → Option Nat} (d : Nat) {T : zT} {H : Nat} (hM : zM n kd I L Rf T) (hO : zOk H T) (hH : H ≤ 1000000000) : zq mX11_law (d + 400) [.ref 112] (n, sl, kd, I, L, Rf) (zpM n sl kd I L Rf (some (.int (s_law T).1)) (s_law T).2) := zq_of_MZ hM (fun f B I7 R7 hI h => q_X11_law d h hO hH f B hI)
