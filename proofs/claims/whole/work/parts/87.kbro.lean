/-! the class: brothers -/
theorem zcS.bro {T : zT} {k : Nat} {K K1 K2 K3 K4 : Nat → Nat → Int32} (h : zcS K 21 (T.c + k) (zbx T k)) (hk : T.c + k < 7) (h1 : K1 = z_set K 22 (T.c + k) (T.tt (5 * k) - 48)) (h2 : K2 = z_set K1 23 (T.c + k) (T.tt (5 * k + 1) - 48)) (h3 : K3 = z_set K2 24 (T.c + k) (z_sg T.tt (5 * k + 2))) (h4 : K4 = z_set K3 21 3 (nI (T.c + k + 1))) : zcS K4 21 (T.c + (k + 1)) (zbx T (k + 1)) := by
  have h0 : ∀ f, f ≠ 3 → K4 21 f = K 21 f := fun f hf => by rw [h4, z_set_nk hf, h3, z_set_ne (by decide), h2, z_set_ne (by decide), h1, z_set_ne (by decide)]
  have hz : ∀ i, 20 < i → zbx T (k + 1) i = zbx T k i := fun i hi => by rw [zbx_s hk, if_neg (by omega), if_neg (by omega), if_neg (by omega)]
  refine ⟨by rw [h4, z_set_at]; rfl, fun b hb => ?_, fun b hb => ?_, fun b hb => ?_, ?_, ?_, ?_, ?_, ?_⟩
  · rw [show (21 + 1 : Nat) = 22 from rfl, h4, z_set_ne (by decide), h3, z_set_ne (by decide), h2, z_set_ne (by decide), h1, zbx_s hk, if_neg (by omega), if_neg (by omega)]
    by_cases e : b = T.c + k
    · rw [if_pos e, e, z_set_at]
    · rw [if_neg e, z_set_nk e]; exact h.g b (by omega)
  · rw [show (21 + 2 : Nat) = 23 from rfl, h4, z_set_ne (by decide), h3, z_set_ne (by decide), h2, zbx_s hk, if_neg (by omega)]
    by_cases e : b = T.c + k
    · rw [if_pos (by omega), e, z_set_at]
    · rw [if_neg (by omega), if_neg (by omega), z_set_nk e, h1, z_set_ne (by decide)]; exact h.t b (by omega)
  · rw [show (21 + 3 : Nat) = 24 from rfl, h4, z_set_ne (by decide), h3, zbx_s hk]
    by_cases e : b = T.c + k
    · rw [if_pos (by omega), e, z_set_at]
    · rw [if_neg (by omega), if_neg (by omega), if_neg (by omega), z_set_nk e, h2, z_set_ne (by decide), h1, z_set_ne (by decide)]; exact h.p b (by omega)
  · rw [h0 4 (by decide), hz 21 (by decide)]; exact h.s
  · rw [h0 5 (by decide), hz 22 (by decide)]; exact h.l
  · rw [h0 6 (by decide), hz 23 (by decide)]; exact h.lg
  · rw [h0 7 (by decide), hz 24 (by decide)]; exact h.ov
  · rw [h0 8 (by decide), hz 25 (by decide)]; exact h.h
theorem zbx_00 {T : zT} : zbx T 0 = T.x := funext fun _ => zbx_0
theorem z_brf_m1 {t : Nat → Int32} {m c : Nat} (hm : m ≤ 80) (h : z_brf t m c (-1)) : (m = 0 ∨ m % 5 = 4) ∧ m ≤ 5 * (7 - c) ∧ m ≤ 34 := by
  obtain ⟨x, h1, h2⟩ := h
  by_cases e : x = -1 ∧ ¬ (m = 0 ∨ m % 5 = 4)
  · rw [if_pos e] at h2; exact absurd h2.symm (nI_nm1 m (by omega))
  · rw [if_neg e] at h2
    rcases h1 with ⟨p, _, _, _, h6⟩ | ⟨h3, _⟩
    · rw [← h2] at h6; exact absurd h6.symm (nI_nm1 p (by omega))
    · have h7 : m = 0 ∨ m % 5 = 4 := Decidable.not_not.1 (fun g => e ⟨h2.symm, g⟩)
      rcases Nat.lt_or_ge (min (5 * (7 - c)) 34) m with g | g
      · exact absurd (Or.inl rfl) (h3 _ g)
      · exact ⟨h7, by omega⟩
theorem z_brf_p {t : Nat → Int32} {m c : Nat} {v : Int32} (h : z_brf t m c v) (hv : ¬ v = -1) : ∃ p, p ≤ m ∧ v = nI p := by
  obtain ⟨x, h1, h2⟩ := h
  by_cases e : x = -1 ∧ ¬ (m = 0 ∨ m % 5 = 4)
  · rw [if_pos e] at h2; exact ⟨m, Nat.le_refl _, h2⟩
  · rw [if_neg e] at h2
    rcases h1 with ⟨p, hp, _, _, h6⟩ | ⟨_, h4⟩
    · exact ⟨p, by omega, h2.trans h6⟩
    · exact absurd (h2.trans h4) hv
theorem z_m1p : ∀ p, p < 81 → -1 - nI p ≤ 0 := by decide +kernel
theorem zC.bro {n : Nat} {kd : Nat → Nat × Nat} {I I1 : Nat → Nat → Int32} {L : Nat → Nat → Int64} {Rf : Nat → Nat → Option Nat} {T : zT} (h : zC n kd I L Rf T) {k : Nat} {x1 : Nat → Int32} (hs : zcS I1 21 (T.c + k) x1) (hk : 0 < k) (h11 : I1 1 1 = 0) (h33 : I1 33 2 = 0) (h31 : I1 33 1 = I 33 1) (hI : ∀ c, ¬ c = 1 → ¬ c = 33 → c < 21 ∨ 24 < c → I1 c = I c) : zC n kd I1 L Rf (((((T.w_tx []).w_c (T.c + k)).w_x x1).w_un []).w_kp (fun _ => none)) := by
  obtain ⟨a, hS, hu⟩ := h.S
  have ha := hS.2.2
  have hL : L 4 = L 4 := rfl
  obtain ⟨o, ho, ho1, _, _⟩ := h.un
  refine ⟨h.F, ⟨a, hS, hu.cg (hI a (by omega) (by omega) (by omega)) (hI (a + 1) (by omega) (by omega) (by omega))⟩, ⟨h11, fun k hk => absurd hk (Nat.not_lt_zero k)⟩, h.rw.cg (hI 3 (by omega) (by omega) (by omega)) hL, (by rw [hI 6 (by omega) (by omega) (by omega)]; exact h.pr), (by rw [hI 5 (by omega) (by omega) (by omega)]; exact h.wm), (by rw [hI 7 (by omega) (by omega) (by omega)]; exact h.wd), hs, ⟨o, ho, h31.trans ho1, h33, fun k y e => by cases e⟩, fun i hi => ?_, h.sn.cg (fun c h1 h2 => hI c (by omega) (by omega) (by omega)), h.hd.cg (fun c h1 h2 => hI c (by omega) (by omega) (by omega)), h.ch, (by rw [hI 1000050 (by omega) (by omega) (by omega)]; exact h.hm)⟩
  show I1 92 i = 0 ∨ I1 92 i = 1 ∧ ∃ q, q < T.c + k ∧ I1 (84 + 4 * i) 3 = nI q
  rw [hI 92 (by omega) (by omega) (by omega), hI (84 + 4 * i) (by omega) (by omega) (by omega)]
  have g5 := h.kp i hi
  revert g5
  cases T.kp i with
  | none =>
    rintro (g | ⟨g, q, g6, g7⟩)
    · exact Or.inl g
    · exact Or.inr ⟨g, q, by omega, g7⟩
  | some y =>
    rintro ⟨g, g6⟩
    exact Or.inr ⟨g, T.c, by omega, g6.cr⟩
theorem k_takeBrothers {n : Nat} {sl : Nat × Nat} {kd : Nat → Nat × Nat} {I : Nat → Nat → Int32} {L : Nat → Nat → Int64} {Rf : Nat → Nat → Option Nat} (d : Nat) {T : zT} {H : Nat} (hC : zC n kd I L Rf T) (hO : zOk H T) {m : Nat} (hl : T.tx.length + 1 = 5 * m ∨ m = 0 ∧ T.tx.length = 0) (hm : T.c + m ≤ 7) : zq mX7_takeBrothers (d + 20) [.ref 21, .ref 1] (n, sl, kd, I, L, Rf) (zpI n sl kd L Rf (nI m) (fun I1 => zcS I1 21 (T.c + m) (zbx T m) ∧ ∀ c, c < 21 ∨ 24 < c → I1 c = I c)) := by
  intro f B
  refine ez_meth pn_X.2.2.2.2.2.2.2.1 (Nat.le_of_ble_eq_true rfl) ?_
  have hF := hC.F; have hx8 := hO.txl
  show ez_P _ _ _ _ _ _ 0 [(0, .ref 21), (1, .ref 1)] [] (n, sl, kd, I, L, Rf) _
  refine ez_iconst (v := 0) dX7_takeBrothers_0 (by decide) ?_
  refine ez_istore_n (l' := [(2, .int 0), (0, .ref 21), (1, .ref 1)]) dX7_takeBrothers_1 rfl (by decide) rfl ?_
  refine ez_iconst (v := 0) dX7_takeBrothers_2 (by decide) ?_
  refine ez_istore_n (l' := [(3, .int 0), (2, .int 0), (0, .ref 21), (1, .ref 1)]) dX7_takeBrothers_3 rfl (by decide) rfl ?_
  refine ez_eq (l2 := [(3, .int (nI (5 * 0))), (2, .int (nI 0)), (0, .ref 21), (1, .ref 1)]) (σ2 := (n, sl, kd, I, L, Rf)) rfl rfl rfl rfl ?_
  refine ez_for m (fun k (a : Nat → Nat → Int32) => ([(3, .int (nI (5 * k))), (2, .int (nI k)), (0, .ref 21), (1, .ref 1)], (n, sl, kd, a, L, Rf))) (fun k a => (∀ c, c < 21 ∨ 24 < c → a c = I c) ∧ zcS a 21 (T.c + k) (zbx T k)) ?_ ?_ m 0 I (by omega) ⟨fun c hc => rfl, by rw [zbx_00]; exact hC.sh⟩
  · rintro k Ia hk ⟨hIa, hS⟩ ih
    show ez_P _ _ _ _ _ _ 4 [(3, .int (nI (5 * k))), (2, .int (nI k)), (0, .ref 21), (1, .ref 1)] [] (n, sl, kd, Ia, L, Rf) _
    refine ez_iload_n (i := 3) dX7_takeBrothers_4 rfl rfl ?_
    refine ez_aload_n (i := 1) dX7_takeBrothers_5 rfl rfl ?_
    refine ez_getI dX7_takeBrothers_6 flX7_40 (hF.lt (by decide)) (hF.kc (by decide) rfl) ?_
    refine ez_topE (y := nI T.tx.length) (by rw [hIa 1 (by omega)]; exact hC.tx.1) ?_
    refine ez_icmp_ge (tgt := 86) dX7_takeBrothers_9 (by decide) (fun c1 => absurd c1 (nI_ge (by omega) (by omega))) (fun c1 => ?_)
    refine ez_aload_n (i := 0) dX7_takeBrothers_12 rfl rfl ?_
    refine ez_getI dX7_takeBrothers_13 flX7_25 (hF.lt (by decide)) (hF.kc (by decide) rfl) ?_
    refine ez_topE (y := nI (T.c + k)) hS.cr ?_
    refine ez_bipush (v := 7) dX7_takeBrothers_16 (by decide) ?_
    refine ez_icmp_ge (tgt := 86) dX7_takeBrothers_18 (by decide) (fun c2 => absurd c2 (nI_ge (b := 7) (by omega) (by decide))) (fun c2 => ?_)
    refine ez_aload_n (i := 0) dX7_takeBrothers_21 rfl rfl ?_
    refine ez_getR dX7_takeBrothers_22 flX7_9 (hF.lt (by decide)) (hF.kc (by decide) rfl) (hF.pt 18 rfl) ?_
    refine ez_aload_n (i := 0) dX7_takeBrothers_25 rfl rfl ?_
    refine ez_getI dX7_takeBrothers_26 flX7_25 (hF.lt (by decide)) (hF.kc (by decide) rfl) ?_
    refine ez_topE (y := nI (T.c + k)) hS.cr ?_
    refine ez_aload_n (i := 1) dX7_takeBrothers_29 rfl rfl ?_
    refine ez_iload_n (i := 3) dX7_takeBrothers_30 rfl rfl ?_
    refine ez_callV (M1 := mX9_digit) (rest := [.int (nI (T.c + k)), .ref 22]) dX7_takeBrothers_31 mlX7_45 mvX9_digit rfl (hF.lt (by decide)) (hF.kc (by decide) rfl) (Nat.le_of_ble_eq_true rfl) rfl (y_X9_digit (I := Ia) (L := L) (d + 18) hF.txt rfl (m := T.tx.length) (by rw [hIa 1 (by omega)]; exact hC.tx.1) hO.txl (k := (5 * k)) (by omega)) eb_rok ?_
    rintro _ _ ⟨rfl, rfl⟩
    show ez_P _ _ _ _ _ _ 34 [(3, .int (nI (5 * k))), (2, .int (nI k)), (0, .ref 21), (1, .ref 1)] (.int (Ia 2 (5 * k) - 48) :: [.int (nI (T.c + k)), .ref 22]) _ _
    refine ez_topE (y := T.tt (5 * k) - 48) (by rw [hIa 2 (by omega), hC.tx.2 (5 * k) (by omega)]) ?_
    refine ez_isN (k := (T.c + k)) dX7_takeBrothers_34 (hF.lt (by decide)) (hF.lx (by decide)) (hF.ka (by decide) rfl) (by omega) (by decide) ?_
    refine ez_nmI (fun I3 hI3 => ?_)
    refine ez_aload_n (i := 0) dX7_takeBrothers_35 rfl rfl ?_
    refine ez_getR dX7_takeBrothers_36 flX7_15 (hF.lt (by decide)) (hF.kc (by decide) rfl) (hF.pt 19 rfl) ?_
    refine ez_aload_n (i := 0) dX7_takeBrothers_39 rfl rfl ?_
    refine ez_getI dX7_takeBrothers_40 flX7_25 (hF.lt (by decide)) (hF.kc (by decide) rfl) ?_
    refine ez_topE (y := Ia 21 3) (by rw [hI3, z_set_ne (by decide)]) ?_
    refine ez_topE (y := nI (T.c + k)) hS.cr ?_
    refine ez_aload_n (i := 1) dX7_takeBrothers_43 rfl rfl ?_
    refine ez_iload_n (i := 3) dX7_takeBrothers_44 rfl rfl ?_
    refine ez_iconst (v := 1) dX7_takeBrothers_45 (by decide) ?_
    refine ez_iadd dX7_takeBrothers_46 ?_
    refine ez_topE (y := nI ((5 * k) + 1)) (nI_add _ _) ?_
    refine ez_callV (M1 := mX9_digit) (rest := [.int (nI (T.c + k)), .ref 23]) dX7_takeBrothers_47 mlX7_45 mvX9_digit rfl (hF.lt (by decide)) (hF.kc (by decide) rfl) (Nat.le_of_ble_eq_true rfl) rfl (y_X9_digit (I := I3) (L := L) (d + 18) hF.txt rfl (m := T.tx.length) (by rw [hI3, z_set_ne (by decide), hIa 1 (by omega)]; exact hC.tx.1) hO.txl (k := ((5 * k) + 1)) (by omega)) eb_rok ?_
    rintro _ _ ⟨rfl, rfl⟩
    show ez_P _ _ _ _ _ _ 50 [(3, .int (nI (5 * k))), (2, .int (nI k)), (0, .ref 21), (1, .ref 1)] (.int (I3 2 ((5 * k) + 1) - 48) :: [.int (nI (T.c + k)), .ref 23]) _ _
    refine ez_topE (y := T.tt (5 * k + 1) - 48) (by rw [hI3, z_set_ne (by decide), hIa 2 (by omega), hC.tx.2 (5 * k + 1) (by omega)]) ?_
    refine ez_isN (k := (T.c + k)) dX7_takeBrothers_50 (hF.lt (by decide)) (hF.lx (by decide)) (hF.ka (by decide) rfl) (by omega) (by decide) ?_
    refine ez_nmI (fun I4 hI4 => ?_)
    refine ez_aload_n (i := 0) dX7_takeBrothers_51 rfl rfl ?_
    refine ez_getR dX7_takeBrothers_52 flX7_18 (hF.lt (by decide)) (hF.kc (by decide) rfl) (hF.pt 20 rfl) ?_
    refine ez_aload_n (i := 0) dX7_takeBrothers_55 rfl rfl ?_
    refine ez_getI dX7_takeBrothers_56 flX7_25 (hF.lt (by decide)) (hF.kc (by decide) rfl) ?_
    refine ez_topE (y := Ia 21 3) (by rw [hI4, z_set_ne (by decide), hI3, z_set_ne (by decide)]) ?_
    refine ez_topE (y := nI (T.c + k)) hS.cr ?_
    refine ez_aload_n (i := 1) dX7_takeBrothers_59 rfl rfl ?_
    refine ez_iload_n (i := 3) dX7_takeBrothers_60 rfl rfl ?_
    refine ez_iconst (v := 2) dX7_takeBrothers_61 (by decide) ?_
    refine ez_iadd dX7_takeBrothers_62 ?_
    refine ez_topE (y := nI ((5 * k) + 2)) (nI_add _ _) ?_
    refine ez_callV (M1 := mX9_signed) (rest := [.int (nI (T.c + k)), .ref 24]) dX7_takeBrothers_63 mlX7_49 mvX9_signed rfl (hF.lt (by decide)) (hF.kc (by decide) rfl) (Nat.le_of_ble_eq_true rfl) rfl (y_X9_signed (I := I4) (L := L) (d + 17) hF.txt rfl (m := T.tx.length) (by rw [hI4, z_set_ne (by decide), hI3, z_set_ne (by decide), hIa 1 (by omega)]; exact hC.tx.1) hO.txl (k := 5 * k + 2) (by omega)) eb_rok ?_
    rintro _ _ ⟨rfl, rfl⟩
    show ez_P _ _ _ _ _ _ 66 [(3, .int (nI (5 * k))), (2, .int (nI k)), (0, .ref 21), (1, .ref 1)] (.int (z_sg (I4 2) (5 * k + 2)) :: [.int (nI (T.c + k)), .ref 24]) _ _
    refine ez_topE (y := z_sg T.tt (5 * k + 2)) (by unfold z_sg; rw [hI4, z_set_ne (by decide), hI3, z_set_ne (by decide), hIa 2 (by omega), hC.tx.2 (5 * k + 2) (by omega), hC.tx.2 (5 * k + 2 + 1) (by omega)]) ?_
    refine ez_isN (k := (T.c + k)) dX7_takeBrothers_66 (hF.lt (by decide)) (hF.lx (by decide)) (hF.ka (by decide) rfl) (by omega) (by decide) ?_
    refine ez_nmI (fun I5 hI5 => ?_)
    refine ez_aload_n (i := 0) dX7_takeBrothers_67 rfl rfl ?_
    refine ez_dup dX7_takeBrothers_68 rfl ?_
    refine ez_getI dX7_takeBrothers_69 flX7_25 (hF.lt (by decide)) (hF.kc (by decide) rfl) ?_
    refine ez_topE (y := Ia 21 3) (by rw [hI5, z_set_ne (by decide), hI4, z_set_ne (by decide), hI3, z_set_ne (by decide)]) ?_
    refine ez_topE (y := nI (T.c + k)) hS.cr ?_
    refine ez_iconst (v := 1) dX7_takeBrothers_72 (by decide) ?_
    refine ez_iadd dX7_takeBrothers_73 ?_
    refine ez_topE (y := nI ((T.c + k) + 1)) (nI_add _ _) ?_
    refine ez_pI dX7_takeBrothers_74 plX7_25 (hF.lt (by decide)) (hF.lx (by decide)) (hF.kc (by decide) rfl) rfl rfl ?_
    refine ez_nmI (fun I6 hI6 => ?_)
    refine ez_iinc (v := (nI (k + 1))) (l' := [(2, .int ((nI (k + 1)))), (3, .int (nI (5 * k))), (0, .ref 21), (1, .ref 1)]) dX7_takeBrothers_77 rfl (nI_1 _) (by decide) rfl ?_
    refine ez_iinc (v := (nI (5 * (k + 1)))) (l' := [(3, .int ((nI (5 * (k + 1))))), (2, .int ((nI (k + 1)))), (0, .ref 21), (1, .ref 1)]) dX7_takeBrothers_80 rfl (nI_5k k) (by decide) rfl ?_
    refine ez_goto (tgt := 4) dX7_takeBrothers_83 (by decide) ?_
    exact ez_eq (l2 := [(3, .int (nI (5 * (k + 1)))), (2, .int (nI (k + 1))), (0, .ref 21), (1, .ref 1)]) rfl rfl rfl rfl (ih I6 ⟨fun c hc => by rw [hI6, z_set_ne (by omega), hI5, z_set_ne (by omega), hI4, z_set_ne (by omega), hI3, z_set_ne (by omega)]; exact hIa c hc, hS.bro (by omega) hI3 hI4 hI5 hI6⟩)
  · rintro Ia ⟨hIa, hS⟩
    show ez_P _ _ _ _ _ _ 4 [(3, .int (nI (5 * m))), (2, .int (nI m)), (0, .ref 21), (1, .ref 1)] [] (n, sl, kd, Ia, L, Rf) _
    refine ez_iload_n (i := 3) dX7_takeBrothers_4 rfl rfl ?_
    refine ez_aload_n (i := 1) dX7_takeBrothers_5 rfl rfl ?_
    refine ez_getI dX7_takeBrothers_6 flX7_40 (hF.lt (by decide)) (hF.kc (by decide) rfl) ?_
    refine ez_topE (y := nI T.tx.length) (by rw [hIa 1 (by omega)]; exact hC.tx.1) ?_
    refine ez_icmp_ge (tgt := 86) dX7_takeBrothers_9 (by decide) (fun c7 => ?_) (fun c7 => absurd (nI_le (by omega) (by omega)) c7)
    refine ez_iload_n (i := 2) dX7_takeBrothers_86 rfl rfl ?_
    refine ez_iret dX7_takeBrothers_87 rfl rfl ?_
    exact ⟨rfl, Ia, rfl, hS, hIa⟩
theorem k_pe {n : Nat} {sl : Nat × Nat} {kd : Nat → Nat × Nat} {I : Nat → Nat → Int32} {L : Nat → Nat → Int64} {Rf : Nat → Nat → Option Nat} (d : Nat) (hF : zF n kd Rf) : zq mX2_empty d [.ref 33] (n, sl, kd, I, L, Rf) (eb_v (n, sl, kd, z_set I 33 2 0, L, Rf)) := by
  intro f B
  refine ez_meth pn_X.2.2.1 (Nat.le_of_ble_eq_true rfl) ?_
  show ez_P _ _ _ _ _ _ 0 [(0, .ref 33)] [] (n, sl, kd, I, L, Rf) _
  refine ez_aload_n (i := 0) dX2_empty_0 rfl rfl ?_
  refine ez_iconst (v := 0) dX2_empty_1 (by decide) ?_
  refine ez_pI dX2_empty_2 plX2_16 (hF.lt (by decide)) (hF.lx (by decide)) (hF.kc (by decide) rfl) rfl rfl ?_
  refine ez_nmI (fun I1 hI1 => ?_)
  refine ez_vret dX2_empty_5 rfl ?_
  exact ⟨by rw [hI1], rfl⟩
theorem c_brothers {n : Nat} {sl : Nat × Nat} {kd : Nat → Nat × Nat} {I : Nat → Nat → Int32} {L : Nat → Nat → Int64} {Rf : Nat → Nat → Option Nat} (d : Nat) {T : zT} {H : Nat} (hC : zC n kd I L Rf T) (hO : zOk H T) (hH : H ≤ 1000000000)  : zq mX10_brothers (d + 60) [.ref 0] (n, sl, kd, I, L, Rf) (zpC n sl kd I L Rf (some (.int (s_brothers T).1)) (s_brothers T).2) := by
  intro f B
  refine ez_meth pn_X.2.2.2.2.2.2.2.2.2.2.1 (Nat.le_of_ble_eq_true rfl) ?_
  have hF := hC.F; have hc7 := hO.c; have hx8 := hO.txl
  show ez_P _ _ _ _ _ _ 0 [(0, .ref 0)] [] (n, sl, kd, I, L, Rf) _
  refine ez_aload_n (i := 0) dX10_brothers_0 rfl rfl ?_
  refine ez_getR dX10_brothers_1 flX10_10 (hF.lt (by decide)) (hF.kc (by decide) rfl) (hF.pt 1 rfl) ?_
  refine ez_aload_n (i := 0) dX10_brothers_4 rfl rfl ?_
  refine ez_getR dX10_brothers_5 flX10_33 (hF.lt (by decide)) (hF.kc (by decide) rfl) (hF.pt 21 rfl) ?_
  refine ez_getI dX10_brothers_8 flX10_126 (hF.lt (by decide)) (hF.kc (by decide) rfl) ?_
  refine ez_topE (y := nI T.c) hC.sh.cr ?_
  refine ez_callV (M1 := mX9_brothersFault) (rest := []) dX10_brothers_11 mlX10_129 mvX9_brothersFault rfl (hF.lt (by decide)) (hF.kc (by decide) rfl) (Nat.le_of_ble_eq_true rfl) rfl (k_brothers_f (I := I) (L := L) (d + 54) hC hO) eb_rqok ?_
  rintro _ _ ⟨rfl, fv, rfl, hfv⟩
  show ez_P _ _ _ _ _ _ 14 [(0, .ref 0)] (.int fv :: []) (n, sl, kd, I, L, Rf) _
  refine ez_istore_n (l' := [(1, .int fv), (0, .ref 0)]) dX10_brothers_14 rfl (by decide) rfl ?_
  refine ez_iload_n (i := 1) dX10_brothers_15 rfl rfl ?_
  refine ez_iconst (v := (-1)) dX10_brothers_16 (by decide) ?_
  refine ez_icmp_ne (tgt := 34) dX10_brothers_17 (by decide) (fun c1 => ?_) (fun c1 => ?_)
  · skip
    refine ez_iconst (v := (-1)) dX10_brothers_34 (by decide) ?_
    refine ez_iload_n (i := 1) dX10_brothers_35 rfl rfl ?_
    refine ez_isub dX10_brothers_36 ?_
    refine ez_istore_n (l' := [(2, .int ((-1) - fv)), (1, .int fv), (0, .ref 0)]) dX10_brothers_37 rfl (by decide) rfl ?_
    refine ez_aload_n (i := 0) dX10_brothers_38 rfl rfl ?_
    refine ez_getR dX10_brothers_39 flX10_10 (hF.lt (by decide)) (hF.kc (by decide) rfl) (hF.pt 1 rfl) ?_
    refine ez_callV (M1 := mX9_empty) (rest := []) dX10_brothers_42 mlX10_123 mvX9_empty rfl (hF.lt (by decide)) (hF.kc (by decide) rfl) (Nat.le_of_ble_eq_true rfl) rfl (y_X9_empty (I := I) (L := L) (d + 59) hF.txt rfl) (eb_vok rfl) ?_
    rintro _ _ ⟨rfl, rfl⟩
    show ez_P _ _ _ _ _ _ 45 [(2, .int ((-1) - fv)), (1, .int fv), (0, .ref 0)] [] (n, sl, kd, z_set I 1 1 0, L, Rf) _
    refine ez_nmI (fun I2 hI2 => ?_)
    refine ez_iload_n (i := 2) dX10_brothers_45 rfl rfl ?_
    refine ez_if_le (tgt := 56) dX10_brothers_46 (by decide) (fun c3 => ?_) (fun c3 => absurd (by obtain ⟨p, hp, e⟩ := z_brf_p hfv c1; have := hO.txl; rw [e]; exact z_m1p p (by omega)) c3)
    refine ez_iload_n (i := 2) dX10_brothers_56 rfl rfl ?_
    refine ez_iret dX10_brothers_57 rfl rfl ?_
    have hl0 : ¬ T.tx.length = 0 := fun e0 => c1 (z_brf_u _ _ hfv ⟨-1, Or.inr ⟨fun p hp => absurd hp (by omega), rfl⟩, by rw [if_neg (fun g => g.2 (Or.inl e0))]⟩)
    rw [show s_brothers T = (-1 - fv, T.w_tx []) from by unfold s_brothers; rw [if_neg hl0, z_the_eq hfv z_brf_u, if_neg c1]]
    exact ((zK.start hC).txt (tx := []) (I1 := I2) ⟨by rw [hI2, z_set_at]; rfl, fun k hk => absurd hk (Nat.not_lt_zero k)⟩ (fun c hc => by rw [hI2, z_set_ne (by omega)])).end
  · skip
    refine ez_aload_n (i := 0) dX10_brothers_20 rfl rfl ?_
    refine ez_getR dX10_brothers_21 flX10_33 (hF.lt (by decide)) (hF.kc (by decide) rfl) (hF.pt 21 rfl) ?_
    refine ez_aload_n (i := 0) dX10_brothers_24 rfl rfl ?_
    refine ez_getR dX10_brothers_25 flX10_10 (hF.lt (by decide)) (hF.kc (by decide) rfl) (hF.pt 1 rfl) ?_
    have hbm := z_brf_m1 hO.txl (Decidable.not_not.1 c1 ▸ hfv)
    refine ez_callV (M1 := mX7_takeBrothers) (rest := []) dX10_brothers_28 mlX10_133 mvX7_takeBrothers rfl (hF.lt (by decide)) (hF.kc (by decide) rfl) (Nat.le_of_ble_eq_true rfl) rfl (k_takeBrothers (I := I) (L := L) (d + 39) hC hO (m := ((T.tx.length + 1) / 5)) (by omega) (by omega)) zpI_ok ?_
    rintro _ _ ⟨rfl, I1, rfl, hS1, hn1⟩
    show ez_P _ _ _ _ _ _ 31 [(1, .int fv), (0, .ref 0)] (.int (nI ((T.tx.length + 1) / 5)) :: []) (n, sl, kd, I1, L, Rf) _
    refine ez_goto (tgt := 37) dX10_brothers_31 (by decide) ?_
    refine ez_istore_n (l' := [(2, .int (nI ((T.tx.length + 1) / 5))), (1, .int fv), (0, .ref 0)]) dX10_brothers_37 rfl (by decide) rfl ?_
    refine ez_aload_n (i := 0) dX10_brothers_38 rfl rfl ?_
    refine ez_getR dX10_brothers_39 flX10_10 (hF.lt (by decide)) (hF.kc (by decide) rfl) (hF.pt 1 rfl) ?_
    refine ez_callV (M1 := mX9_empty) (rest := []) dX10_brothers_42 mlX10_123 mvX9_empty rfl (hF.lt (by decide)) (hF.kc (by decide) rfl) (Nat.le_of_ble_eq_true rfl) rfl (y_X9_empty (I := I1) (L := L) (d + 59) hF.txt rfl) (eb_vok rfl) ?_
    rintro _ _ ⟨rfl, rfl⟩
    show ez_P _ _ _ _ _ _ 45 [(2, .int (nI ((T.tx.length + 1) / 5))), (1, .int fv), (0, .ref 0)] [] (n, sl, kd, z_set I1 1 1 0, L, Rf) _
    refine ez_nmI (fun I4 hI4 => ?_)
    refine ez_iload_n (i := 2) dX10_brothers_45 rfl rfl ?_
    refine ez_if_le (tgt := 56) dX10_brothers_46 (by decide) (fun c5 => ?_) (fun c5 => ?_)
    · skip
      refine ez_iload_n (i := 2) dX10_brothers_56 rfl rfl ?_
      refine ez_iret dX10_brothers_57 rfl rfl ?_
      have hm0 := nI_leN c5 (by omega)
      have hl0 : T.tx.length = 0 := by omega
      rw [s_brothers_0 hl0, show nI ((T.tx.length + 1) / 5) = 0 from by rw [show ((T.tx.length + 1) / 5) = 0 by omega]; rfl]
      rw [show ((T.tx.length + 1) / 5) = 0 by omega, zbx_00] at hS1
      exact (((zK.start hC).sh (I1 := I1) hS1 hn1).txt (tx := []) (I1 := I4) ⟨by rw [hI4, z_set_at]; rfl, fun k hk => absurd hk (Nat.not_lt_zero k)⟩ (fun c hc => by rw [hI4, z_set_ne (by omega)])).end
    · skip
      refine ez_aload_n (i := 0) dX10_brothers_49 rfl rfl ?_
      refine ez_getR dX10_brothers_50 flX10_46 (hF.lt (by decide)) (hF.kc (by decide) rfl) (hF.pt 30 rfl) ?_
      refine ez_callV (M1 := mX2_empty) (rest := []) dX10_brothers_53 mlX10_136 mvX2_empty rfl (hF.lt (by decide)) (hF.kc (by decide) rfl) (Nat.le_of_ble_eq_true rfl) rfl (k_pe (I := I4) (L := L) (d + 59) hF) (eb_vok rfl) ?_
      rintro _ _ ⟨rfl, rfl⟩
      show ez_P _ _ _ _ _ _ 56 [(2, .int (nI ((T.tx.length + 1) / 5))), (1, .int fv), (0, .ref 0)] [] (n, sl, kd, z_set I4 33 2 0, L, Rf) _
      refine ez_nmI (fun I6 hI6 => ?_)
      refine ez_iload_n (i := 2) dX10_brothers_56 rfl rfl ?_
      refine ez_iret dX10_brothers_57 rfl rfl ?_
      have hm0 : 0 < ((T.tx.length + 1) / 5) := Nat.pos_of_ne_zero (fun e => c5 (by rw [e]; decide))
      obtain ⟨k, hk⟩ : ∃ k, T.tx.length = 5 * k + 4 := ⟨T.tx.length / 5, by omega⟩
      have e5 : ((T.tx.length + 1) / 5) = k + 1 := by omega
      rw [e5] at hS1 ⊢
      rw [s_brothers_y hk (Decidable.not_not.1 c1 ▸ hfv)]
      have hcg : ∀ c, ¬ c = 1 → ¬ c = 33 → I6 c = I1 c := fun c h1 h2 => by rw [hI6, z_set_ne h2, hI4, z_set_ne h1]
      have hz := hC.bro (I1 := I6) (hS1.cg (hcg 21 (by decide) (by decide)) (hcg 22 (by decide) (by decide)) (hcg 23 (by decide) (by decide)) (hcg 24 (by decide) (by decide))) (Nat.succ_pos k) (by rw [hI6, z_set_ne (by decide), hI4, z_set_at]) (by rw [hI6, z_set_at]) (by rw [hI6, z_set_nk (by decide), hI4, z_set_ne (by decide), hn1 33 (by decide)]) (fun c h1 h2 h3 => by rw [hcg c h1 h2, hn1 c h3])
      exact ⟨rfl, _, _, _, rfl, hz, fun c hc => ⟨by rw [hcg c (by omega) (by omega), hn1 c (by omega)], rfl, rfl⟩⟩
