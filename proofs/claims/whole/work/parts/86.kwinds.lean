/-! the class: winds -/
theorem nI_2k (k : Nat) : nI (2 * k) + 2 = nI (2 * (k + 1)) := (Int32.ofNat_add (2 * k) 2).symm
theorem nI_5k (k : Nat) : nI (5 * k) + 5 = nI (5 * (k + 1)) := (Int32.ofNat_add (5 * k) 5).symm
theorem k_takeWinds {n : Nat} {sl : Nat × Nat} {kd : Nat → Nat × Nat} {I : Nat → Nat → Int32} {L : Nat → Nat → Int64} {Rf : Nat → Nat → Option Nat} (d : Nat) {T : zT} {H : Nat} (hC : zC n kd I L Rf T) (hO : zOk H T) {m : Nat} (hl : T.tx.length = 2 * m) (hm : m ≤ 20) : zq mX6_takeWinds (d + 20) [.ref 5, .ref 1] (n, sl, kd, I, L, Rf) (zpI n sl kd L Rf (nI m) (fun I1 => I1 5 2 = nI m ∧ (∀ q, q < m → I1 7 q = z_sg T.tt (2 * q)) ∧ ∀ c, c < 5 ∨ c = 6 ∨ 7 < c → I1 c = I c)) := by
  intro f B
  refine ez_meth pn_X.2.2.2.2.2.2.1 (Nat.le_of_ble_eq_true rfl) ?_
  have hF := hC.F; have hx8 := hO.txl
  show ez_P _ _ _ _ _ _ 0 [(0, .ref 5), (1, .ref 1)] [] (n, sl, kd, I, L, Rf) _
  refine ez_aload_n (i := 0) dX6_takeWinds_0 rfl rfl ?_
  refine ez_iconst (v := 0) dX6_takeWinds_1 (by decide) ?_
  refine ez_pI dX6_takeWinds_2 plX6_18 (hF.lt (by decide)) (hF.lx (by decide)) (hF.kc (by decide) rfl) rfl rfl ?_
  refine ez_nmI (fun I1 hI1 => ?_)
  refine ez_iconst (v := 0) dX6_takeWinds_5 (by decide) ?_
  refine ez_istore_n (l' := [(2, .int 0), (0, .ref 5), (1, .ref 1)]) dX6_takeWinds_6 rfl (by decide) rfl ?_
  refine ez_eq (l2 := [(2, .int (nI (2 * 0))), (0, .ref 5), (1, .ref 1)]) (σ2 := (n, sl, kd, I1, L, Rf)) rfl rfl rfl rfl ?_
  refine ez_for m (fun k (a : Nat → Nat → Int32) => ([(2, .int (nI (2 * k))), (0, .ref 5), (1, .ref 1)], (n, sl, kd, a, L, Rf))) (fun k a => (∀ c, c < 5 ∨ c = 6 ∨ 7 < c → a c = I c) ∧ a 5 2 = nI k ∧ ∀ q, q < k → a 7 q = z_sg T.tt (2 * q)) ?_ ?_ m 0 I1 (by omega) ⟨fun c hc => by rw [hI1, z_set_ne (by omega)], by rw [hI1, z_set_at]; rfl, fun q hq => absurd hq (Nat.not_lt_zero q)⟩
  · rintro k Ia hk ⟨hIa, hKm, hKb⟩ ih
    show ez_P _ _ _ _ _ _ 7 [(2, .int (nI (2 * k))), (0, .ref 5), (1, .ref 1)] [] (n, sl, kd, Ia, L, Rf) _
    refine ez_iload_n (i := 2) dX6_takeWinds_7 rfl rfl ?_
    refine ez_aload_n (i := 1) dX6_takeWinds_8 rfl rfl ?_
    refine ez_getI dX6_takeWinds_9 flX6_47 (hF.lt (by decide)) (hF.kc (by decide) rfl) ?_
    refine ez_topE (y := nI T.tx.length) (by rw [hIa 1 (by omega)]; exact hC.tx.1) ?_
    refine ez_icmp_ge (tgt := 57) dX6_takeWinds_12 (by decide) (fun c2 => absurd c2 (nI_ge (by omega) (by omega))) (fun c2 => ?_)
    refine ez_aload_n (i := 0) dX6_takeWinds_15 rfl rfl ?_
    refine ez_getI dX6_takeWinds_16 flX6_18 (hF.lt (by decide)) (hF.kc (by decide) rfl) ?_
    refine ez_topE (y := nI k) hKm ?_
    refine ez_aload_n (i := 0) dX6_takeWinds_19 rfl rfl ?_
    refine ez_getR dX6_takeWinds_20 flX6_15 (hF.lt (by decide)) (hF.kc (by decide) rfl) (hF.pt 6 rfl) ?_
    refine ez_alen (v := 20) dX6_takeWinds_23 (hF.lt (by decide)) (hF.ka (by decide) rfl) (by decide) (by decide) ?_
    refine ez_icmp_ge (tgt := 57) dX6_takeWinds_24 (by decide) (fun c3 => absurd c3 (nI_ge (b := 20) (by omega) (by decide))) (fun c3 => ?_)
    refine ez_aload_n (i := 0) dX6_takeWinds_27 rfl rfl ?_
    refine ez_getR dX6_takeWinds_28 flX6_15 (hF.lt (by decide)) (hF.kc (by decide) rfl) (hF.pt 6 rfl) ?_
    refine ez_aload_n (i := 0) dX6_takeWinds_31 rfl rfl ?_
    refine ez_getI dX6_takeWinds_32 flX6_18 (hF.lt (by decide)) (hF.kc (by decide) rfl) ?_
    refine ez_topE (y := nI k) hKm ?_
    refine ez_aload_n (i := 1) dX6_takeWinds_35 rfl rfl ?_
    refine ez_iload_n (i := 2) dX6_takeWinds_36 rfl rfl ?_
    refine ez_callV (M1 := mX9_signed) (rest := [.int (nI k), .ref 7]) dX6_takeWinds_37 mlX6_50 mvX9_signed rfl (hF.lt (by decide)) (hF.kc (by decide) rfl) (Nat.le_of_ble_eq_true rfl) rfl (y_X9_signed (I := Ia) (L := L) (d + 17) hF.txt rfl (m := T.tx.length) (by rw [hIa 1 (by omega)]; exact hC.tx.1) hO.txl (k := 2 * k) (by omega)) eb_rok ?_
    rintro _ _ ⟨rfl, rfl⟩
    show ez_P _ _ _ _ _ _ 40 [(2, .int (nI (2 * k))), (0, .ref 5), (1, .ref 1)] (.int (z_sg (Ia 2) (2 * k)) :: [.int (nI k), .ref 7]) _ _
    refine ez_topE (y := z_sg T.tt (2 * k)) (by unfold z_sg; rw [hIa 2 (by omega), hC.tx.2 (2 * k) (by omega), hC.tx.2 (2 * k + 1) (by omega)]) ?_
    refine ez_isN (k := k) dX6_takeWinds_40 (hF.lt (by decide)) (hF.lx (by decide)) (hF.ka (by decide) rfl) (by omega) (by decide) ?_
    refine ez_nmI (fun I4 hI4 => ?_)
    refine ez_aload_n (i := 0) dX6_takeWinds_41 rfl rfl ?_
    refine ez_dup dX6_takeWinds_42 rfl ?_
    refine ez_getI dX6_takeWinds_43 flX6_18 (hF.lt (by decide)) (hF.kc (by decide) rfl) ?_
    refine ez_topE (y := Ia 5 2) (by rw [hI4, z_set_ne (by decide)]) ?_
    refine ez_topE (y := nI k) hKm ?_
    refine ez_iconst (v := 1) dX6_takeWinds_46 (by decide) ?_
    refine ez_iadd dX6_takeWinds_47 ?_
    refine ez_topE (y := nI (k + 1)) (nI_add _ _) ?_
    refine ez_pI dX6_takeWinds_48 plX6_18 (hF.lt (by decide)) (hF.lx (by decide)) (hF.kc (by decide) rfl) rfl rfl ?_
    refine ez_nmI (fun I5 hI5 => ?_)
    refine ez_iinc (v := (nI (2 * (k + 1)))) (l' := [(2, .int ((nI (2 * (k + 1))))), (0, .ref 5), (1, .ref 1)]) dX6_takeWinds_51 rfl (nI_2k k) (by decide) rfl ?_
    refine ez_goto (tgt := 7) dX6_takeWinds_54 (by decide) ?_
    exact ez_eq (l2 := [(2, .int (nI (2 * (k + 1)))), (0, .ref 5), (1, .ref 1)]) rfl rfl rfl rfl (ih I5 ⟨fun c hc => by rw [hI5, z_set_ne (by omega), hI4, z_set_ne (by omega)]; exact hIa c hc, by rw [hI5, z_set_at], fun q hq => by rw [hI5, z_set_ne (by decide), hI4]; by_cases e : q = k; rw [e, z_set_at]; rw [z_set_nk e]; exact hKb q (by omega)⟩)
  · rintro Ia ⟨hIa, hKm, hKb⟩
    show ez_P _ _ _ _ _ _ 7 [(2, .int (nI (2 * m))), (0, .ref 5), (1, .ref 1)] [] (n, sl, kd, Ia, L, Rf) _
    refine ez_iload_n (i := 2) dX6_takeWinds_7 rfl rfl ?_
    refine ez_aload_n (i := 1) dX6_takeWinds_8 rfl rfl ?_
    refine ez_getI dX6_takeWinds_9 flX6_47 (hF.lt (by decide)) (hF.kc (by decide) rfl) ?_
    refine ez_topE (y := nI T.tx.length) (by rw [hIa 1 (by omega)]; exact hC.tx.1) ?_
    refine ez_icmp_ge (tgt := 57) dX6_takeWinds_12 (by decide) (fun c6 => ?_) (fun c6 => absurd (nI_le (by omega) (by omega)) c6)
    refine ez_aload_n (i := 0) dX6_takeWinds_57 rfl rfl ?_
    refine ez_getI dX6_takeWinds_58 flX6_18 (hF.lt (by decide)) (hF.kc (by decide) rfl) ?_
    refine ez_topE (y := nI m) hKm ?_
    refine ez_iret dX6_takeWinds_61 rfl rfl ?_
    exact ⟨rfl, Ia, rfl, hKm, hKb, hIa⟩
theorem c_winds {n : Nat} {sl : Nat × Nat} {kd : Nat → Nat × Nat} {I : Nat → Nat → Int32} {L : Nat → Nat → Int64} {Rf : Nat → Nat → Option Nat} (d : Nat) {T : zT} {H : Nat} (hC : zC n kd I L Rf T) (hO : zOk H T) (hH : H ≤ 1000000000) : zq mX10_winds (d + 60) [.ref 0] (n, sl, kd, I, L, Rf) (zpC n sl kd I L Rf (some (.int (s_winds T).1)) (s_winds T).2) := by
  have hF := hC.F; have hc7 := hO.c
  have hK0 : zK n kd I L Rf I I L Rf T none none false := zK.start hC
  intro f B
  refine ez_meth pn_X.2.2.2.2.2.2.2.2.2.2.1 (Nat.le_of_ble_eq_true rfl) ?_
  show ez_P _ _ _ _ _ _ 0 [(0, .ref 0)] [] (n, sl, kd, I, L, Rf) _
  refine ez_aload_n (i := 0) dX10_winds_0 rfl rfl ?_
  refine ez_getR dX10_winds_1 flX10_10 (hF.lt (by decide)) (hF.kc (by decide) rfl) (hF.pt 1 rfl) ?_
  refine ez_callV (M1 := mX9_windsFault) (rest := []) dX10_winds_4 mlX10_137 mvX9_windsFault rfl (hF.lt (by decide)) (hF.kc (by decide) rfl) (Nat.le_of_ble_eq_true rfl) rfl (k_winds_f (I := I) (L := L) (d + 54) hC hO) eb_rqok ?_
  rintro _ _ ⟨rfl, fv, rfl, hfv⟩
  show ez_P _ _ _ _ _ _ 7 [(0, .ref 0)] (.int fv :: []) (n, sl, kd, I, L, Rf) _
  refine ez_istore_n (l' := [(1, .int fv), (0, .ref 0)]) dX10_winds_7 rfl (by decide) rfl ?_
  refine ez_iload_n (i := 1) dX10_winds_8 rfl rfl ?_
  refine ez_iconst (v := (-1)) dX10_winds_9 (by decide) ?_
  refine ez_icmp_ne (tgt := 27) dX10_winds_10 (by decide) (fun c1 => ?_) (fun c1 => ?_)
  · skip
    refine ez_iconst (v := (-1)) dX10_winds_27 (by decide) ?_
    refine ez_iload_n (i := 1) dX10_winds_28 rfl rfl ?_
    refine ez_isub dX10_winds_29 ?_
    refine ez_istore_n (l' := [(2, .int ((-1) - fv)), (1, .int fv), (0, .ref 0)]) dX10_winds_30 rfl (by decide) rfl ?_
    refine ez_aload_n (i := 0) dX10_winds_31 rfl rfl ?_
    refine ez_getR dX10_winds_32 flX10_10 (hF.lt (by decide)) (hF.kc (by decide) rfl) (hF.pt 1 rfl) ?_
    refine ez_callV (M1 := mX9_empty) (rest := []) dX10_winds_35 mlX10_123 mvX9_empty rfl (hF.lt (by decide)) (hF.kc (by decide) rfl) (Nat.le_of_ble_eq_true rfl) rfl (y_X9_empty (I := I) (L := L) (d + 59) hF.txt rfl) (eb_vok rfl) ?_
    rintro _ _ ⟨rfl, rfl⟩
    refine ez_nmI (fun I2 hI2 => ?_)
    show ez_P _ _ _ _ _ _ 38 [(2, .int ((-1) - fv)), (1, .int fv), (0, .ref 0)] [] (n, sl, kd, I2, L, Rf) _
    have hK3 : zK n kd I L Rf I I2 L Rf (T.w_tx []) none none false := by rw [hI2]; exact hK0.txt (I1 := z_set I 1 1 0) ⟨z_set_at, fun k hk => absurd hk (Nat.not_lt_zero k)⟩ (fun c hc => z_set_ne (by omega))
    refine ez_iload_n (i := 2) dX10_winds_38 rfl rfl ?_
    refine ez_iret dX10_winds_39 rfl rfl ?_
    rw [show s_winds T = (-1 - fv, T.w_tx []) from by unfold s_winds; rw [z_the_eq hfv z_wif_u, if_neg c1]]
    exact hK3.end
  · skip
    refine ez_aload_n (i := 0) dX10_winds_13 rfl rfl ?_
    refine ez_getR dX10_winds_14 flX10_26 (hF.lt (by decide)) (hF.kc (by decide) rfl) (hF.pt 4 rfl) ?_
    refine ez_aload_n (i := 0) dX10_winds_17 rfl rfl ?_
    refine ez_getR dX10_winds_18 flX10_10 (hF.lt (by decide)) (hF.kc (by decide) rfl) (hF.pt 1 rfl) ?_
    refine ez_callV (M1 := mX6_takeWinds) (rest := []) dX10_winds_21 mlX10_140 mvX6_takeWinds rfl (hF.lt (by decide)) (hF.kc (by decide) rfl) (Nat.le_of_ble_eq_true rfl) rfl (k_takeWinds (I := I) (L := L) (d + 39) hC hO (m := T.tx.length / 2) (by have := z_wif_m1 hO.txl (Decidable.not_not.1 c1 ▸ hfv); omega) (by have := z_wif_m1 hO.txl (Decidable.not_not.1 c1 ▸ hfv); omega)) zpI_ok ?_
    rintro _ _ ⟨rfl, I1, rfl, hwm, hwd, hn1⟩
    show ez_P _ _ _ _ _ _ 24 [(1, .int fv), (0, .ref 0)] (.int (nI (T.tx.length / 2)) :: []) (n, sl, kd, I1, L, Rf) _
    have hK4 : zK n kd I L Rf I I1 L Rf ((T.w_wm (T.tx.length / 2)).w_wd (fun q => z_sg T.tt (2 * q))) none none false := by exact hK0.sea (pr := T.pr) (wm := T.tx.length / 2) (wd := fun q => z_sg T.tt (2 * q)) (fun t ht => by rw [hn1 6 (by decide)]; exact hC.pr t ht) hwm hwd (fun c hc => hn1 c (by omega))
    refine ez_goto (tgt := 30) dX10_winds_24 (by decide) ?_
    refine ez_istore_n (l' := [(2, .int (nI (T.tx.length / 2))), (1, .int fv), (0, .ref 0)]) dX10_winds_30 rfl (by decide) rfl ?_
    refine ez_aload_n (i := 0) dX10_winds_31 rfl rfl ?_
    refine ez_getR dX10_winds_32 flX10_10 (hF.lt (by decide)) (hF.kc (by decide) rfl) (hF.pt 1 rfl) ?_
    refine ez_callV (M1 := mX9_empty) (rest := []) dX10_winds_35 mlX10_123 mvX9_empty rfl (hF.lt (by decide)) (hF.kc (by decide) rfl) (Nat.le_of_ble_eq_true rfl) rfl (y_X9_empty (I := I1) (L := L) (d + 59) hF.txt rfl) (eb_vok rfl) ?_
    rintro _ _ ⟨rfl, rfl⟩
    refine ez_nmI (fun I5 hI5 => ?_)
    show ez_P _ _ _ _ _ _ 38 [(2, .int (nI (T.tx.length / 2))), (1, .int fv), (0, .ref 0)] [] (n, sl, kd, I5, L, Rf) _
    have hK6 : zK n kd I L Rf I I5 L Rf (((T.w_wm (T.tx.length / 2)).w_wd (fun q => z_sg T.tt (2 * q))).w_tx []) none none false := by rw [hI5]; exact hK4.txt (I1 := z_set I1 1 1 0) ⟨z_set_at, fun k hk => absurd hk (Nat.not_lt_zero k)⟩ (fun c hc => z_set_ne (by omega))
    refine ez_iload_n (i := 2) dX10_winds_38 rfl rfl ?_
    refine ez_iret dX10_winds_39 rfl rfl ?_
    rw [s_winds_y (Decidable.not_not.1 c1 ▸ hfv)]
    exact hK6.end
