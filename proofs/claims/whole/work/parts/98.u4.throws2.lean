/-! the three cases that may throw -/
theorem lt_6 (d : Nat) {k N f H : Nat} {sl sl1 : Nat × Nat} {kd : Nat → Nat × Nat} {I1 : Nat → Nat → Int32} {L1 : Nat → Nat → Int64} {R1 : Nat → Nat → Option Nat} {T : zT} {xs : Nat → Int32} {Φ : Option Value → eb_S → Prop} {t : Int32} {w : Int64} {v : Int32} (hs1 : sl1.1 ≤ sl.1 + 1) (hs2 : sl1.2 ≤ sl.2 + 6) (hF1 : zF 138 kd R1) (hx1 : I1 1000060 = xs) (hkN : (kd 1000060).2 = N) (hk5 : 5 * k + 5 ≤ N) (hN : N ≤ 2560) (hO : zOk H T) (hr : eb_Q mX11_brother (d + 400) [.ref 112, .int (xs (5 * k + 1)), .int (xs (5 * k + 2))] (138, sl1, kd, I1, L1, R1) (zpZ sl1 kd xs T f t w (some (.int v)))) (hvw : t = 0 → w = v.toInt64) (ih : zIH d k N sl kd xs H f Φ) : eb_P mL_law (d + 401) 377 ((5, .int t) :: [(4, .int (nI (5 * k))), (3, .ref 137), (2, .ref 112), (1, .ref 0), (0, .ref 1000060)]) [] (138, sl1, kd, I1, L1, R1) Φ := by
  refine ep_aload_n (i := 2) dL_law_377 rfl rfl ?_
  refine ep_aload_n (i := 0) dL_law_378 rfl rfl ?_
  refine ep_iload (i := 4) dL_law_379 rfl ?_
  refine ep_iconst (v := 1) dL_law_381 (by decide) ?_
  refine ep_iadd dL_law_382 ?_
  refine ep_topE (y := nI (5 * k + 1)) (nI_add _ _) ?_
  refine ep_xi dL_law_383 (Or.inr rfl) hkN (vp_in_nI (by omega) (by omega)) ?_
  refine ep_topE (y := xs (5 * k + 1)) (by rw [nI_clamp (by omega)]; exact congrFun hx1 _) ?_
  refine ep_aload_n (i := 0) dL_law_384 rfl rfl ?_
  refine ep_iload (i := 4) dL_law_385 rfl ?_
  refine ep_iconst (v := 2) dL_law_387 (by decide) ?_
  refine ep_iadd dL_law_388 ?_
  refine ep_topE (y := nI (5 * k + 2)) (nI_add _ _) ?_
  refine ep_xi dL_law_389 (Or.inr rfl) hkN (vp_in_nI (by omega) (by omega)) ?_
  refine ep_topE (y := xs (5 * k + 2)) (by rw [nI_clamp (by omega)]; exact congrFun hx1 _) ?_
  refine ep_callV (i := 112) (M1 := mX11_brother) (rest := []) dL_law_390 mlL_58 mvX11_brother rfl (Nat.le_of_ble_eq_true rfl) (hF1.kc (by decide) rfl) (Nat.le_of_ble_eq_true rfl) rfl hr zpZ_ok ?_
  rintro _ _ ⟨rfl, I2, L2, R2, rfl, hC2, hM2, ⟨B2, hB2⟩, h9, hx2, hw2⟩
  show eb_P _ _ 393 ((5, .int t) :: [(4, .int (nI (5 * k))), (3, .ref 137), (2, .ref 112), (1, .ref 0), (0, .ref 1000060)]) [.int v] (138, sl1, kd, I2, L2, R2) _
  refine ep_istore (i := 6) (l' := [(6, .int v), (5, .int t), (4, .int (nI (5 * k))), (3, .ref 137), (2, .ref 112), (1, .ref 0), (0, .ref 1000060)]) dL_law_393 (by decide) rfl ?_
  refine ep_aload_n (i := 2) dL_law_395 rfl rfl ?_
  refine ep_callV (i := 112) (M1 := mX11_thrown) (rest := []) dL_law_396 mlL_59 mvX11_thrown rfl (Nat.le_of_ble_eq_true rfl) (hC2.F.kc (by decide) rfl) (Nat.le_of_ble_eq_true rfl) rfl (z_thrZ (d + 400) hC2 hM2 hB2 h9 hx2 hw2) zpZ_ok ?_
  rintro _ _ ⟨rfl, I3, L3, R3, rfl, hC3, hM3, hB3, h9, hx3, hw3⟩
  show eb_P _ _ 399 [(6, .int v), (5, .int t), (4, .int (nI (5 * k))), (3, .ref 137), (2, .ref 112), (1, .ref 0), (0, .ref 1000060)] [.int t] (138, sl1, kd, I3, L3, R3) _
  refine ep_iload (i := 5) dL_law_399 rfl ?_
  refine ep_icmp_eq (tgt := 406) dL_law_401 (by decide) (fun _ => ?_) (fun h => absurd rfl h)
  have K : eb_P mL_law (d + 401) 423 [(6, .int v), (5, .int t), (4, .int (nI (5 * k))), (3, .ref 137), (2, .ref 112), (1, .ref 0), (0, .ref 1000060)] [] (138, sl1, kd, I3, L3, R3) Φ := ep_goto (tgt := 1563) dL_law_423 (by decide) (ep_sub (l' := [(4, .int (nI (5 * k))), (3, .ref 137), (2, .ref 112), (1, .ref 0), (0, .ref 1000060)]) [2, 3, 4, 5, 6] rfl (ih sl1 I3 L3 R3 T hs1 hs2 ⟨hC3, hM3, hO.le (by omega), hB3⟩ hx3))
  refine ep_iload (i := 5) dL_law_406 rfl ?_
  refine ep_if_ne (tgt := 423) dL_law_408 (by decide) (fun _ => K) (fun ht => ?_)
  refine ep_aload_n (i := 3) dL_law_411 rfl rfl ?_
  refine ep_iconst (v := 0) dL_law_412 (by decide) ?_
  refine ep_laN (k := 0) dL_law_413 (Nat.le_of_ble_eq_true rfl) (hC3.F.ka (c := 137) (x := (23, 1)) (by decide) rfl) (by decide) (by decide) ?_
  refine ep_iload (i := 6) dL_law_414 rfl ?_
  refine ep_i2l dL_law_416 rfl ?_
  refine ep_lcmp dL_law_417 ?_
  refine ep_topE (y := 0) (by rw [hw3, hvw (Decidable.not_not.mp ht)]; exact lg_cmp_self _) ?_
  exact ep_if_eq (tgt := 423) dL_law_418 (by decide) (fun _ => K) (fun h => absurd rfl h)
theorem lc_6 (d : Nat) {k N f H : Nat} {sl : Nat × Nat} {kd : Nat → Nat × Nat} {I : Nat → Nat → Int32} {L : Nat → Nat → Int64} {Rf : Nat → Nat → Option Nat} {T : zT} {xs : Nat → Int32} {Φ : Option Value → eb_S → Prop} (hL : zL 138 kd I L Rf T H (f + 100)) (hx : I 1000060 = xs) (hkN : (kd 1000060).2 = N) (hk5 : 5 * k + 5 ≤ N) (hN : N ≤ 2560) (hH : H ≤ 800000000) (ih : zIH d k N sl kd xs H f Φ) : eb_P mL_law (d + 401) 358 [(4, .int (nI (5 * k))), (3, .ref 137), (2, .ref 112), (1, .ref 0), (0, .ref 1000060)] [] (138, sl, kd, I, L, Rf) Φ := by
  obtain ⟨B0, hB0⟩ := hL.2.2.2
  refine ep_aload_n (i := 1) dL_law_358 rfl rfl ?_
  refine ep_aload_n (i := 0) dL_law_359 rfl rfl ?_
  refine ep_iload (i := 4) dL_law_360 rfl ?_
  refine ep_iconst (v := 1) dL_law_362 (by decide) ?_
  refine ep_iadd dL_law_363 ?_
  refine ep_topE (y := nI (5 * k + 1)) (nI_add _ _) ?_
  refine ep_xi dL_law_364 (Or.inr rfl) hkN (vp_in_nI (by omega) (by omega)) ?_
  refine ep_topE (y := xs (5 * k + 1)) (by rw [nI_clamp (by omega)]; exact congrFun hx _) ?_
  refine ep_aload_n (i := 0) dL_law_365 rfl rfl ?_
  refine ep_iload (i := 4) dL_law_366 rfl ?_
  refine ep_iconst (v := 2) dL_law_368 (by decide) ?_
  refine ep_iadd dL_law_369 ?_
  refine ep_topE (y := nI (5 * k + 2)) (nI_add _ _) ?_
  refine ep_xi dL_law_370 (Or.inr rfl) hkN (vp_in_nI (by omega) (by omega)) ?_
  refine ep_topE (y := xs (5 * k + 2)) (by rw [nI_clamp (by omega)]; exact congrFun hx _) ?_
  refine ep_aload_n (i := 3) dL_law_371 rfl rfl ?_
  by_cases hok : (0 ≤ xs (5 * k + 1) ∧ xs (5 * k + 1) < nI T.c) ∧ (0 ≤ xs (5 * k + 2) ∧ xs (5 * k + 2) ≤ 3)
  · obtain ⟨b0, hb, hbe⟩ := pk_of (by have := hL.2.2.1.c; omega) hok.1.1 hok.1.2
    have hE : eb_QW mL_brother [(0, 10, 13, 13)] (d + 400) [.ref 0, .int (xs (5 * k + 1)), .int (xs (5 * k + 2)), .ref 137] (138, sl, kd, I, L, Rf) (fun r τ => r = some (.int 0) ∧ ∃ I1 L1 R1, τ = (138, sl, kd, I1, L1, R1) ∧ zC 138 kd I1 L1 R1 T ∧ zM 138 kd I1 L1 R1 T ∧ (∃ B, zInv f B I1) ∧ I1 1000060 = xs ∧ L1 137 0 = (v_brother T b0 (xs (5 * k + 2))).toInt64) := by rw [hbe]; exact w_brother_ok d hL hx hH hb hok.2
    refine ep_callSW (M1 := mL_brother) (nn := 4) (rest := []) dL_law_372 (eb_tb5 133 rfl rfl) (eb_tb5 135 rfl rfl) (eb_tb1 0 rfl rfl) (eb_tb5 134 rfl rfl) ⟨by decide, by decide, rfl⟩ (Nat.le_of_ble_eq_true rfl) rfl (Nat.le_of_ble_eq_true rfl) rfl hE (fun _ _ h => Or.inl (by obtain ⟨_, _, _, _, h, _⟩ := h; rw [h])) ?_
    rintro _ _ ⟨rfl, I1, L1, R1, rfl, hC1, hM1, ⟨B1, hB1⟩, hx1, hw⟩
    show eb_P _ _ 375 [(4, .int (nI (5 * k))), (3, .ref 137), (2, .ref 112), (1, .ref 0), (0, .ref 1000060)] [.int 0] (138, sl, kd, I1, L1, R1) _
    refine ep_istore (i := 5) (l' := (5, .int 0) :: [(4, .int (nI (5 * k))), (3, .ref 137), (2, .ref 112), (1, .ref 0), (0, .ref 1000060)]) dL_law_375 (by decide) rfl ?_
    exact lt_6 d (sl1 := sl) (t := 0) (w := (v_brother T b0 (xs (5 * k + 2))).toInt64) (v := v_brother T b0 (xs (5 * k + 2))) (Nat.le_add_right _ _) (Nat.le_add_right _ _) hC1.F hx1 hkN hk5 hN hL.2.2.1 (by rw [hbe]; exact z_refZ hC1 hB1 hx1 hw (y_X11_brother d hM1 hL.2.2.1 (by omega) hb hok.2)) (fun _ => rfl) ih
  · have hBf : zInv f B0 I := hB0.le (by omega)
    have hE : eb_QW mL_brother [(0, 10, 13, 13)] (d + 400) [.ref 0, .int (xs (5 * k + 1)), .int (xs (5 * k + 2)), .ref 137] (138, sl, kd, I, L, Rf) (fun r τ => r = some (.int 1) ∧ τ = (138, (sl.1 + 1, sl.2 + 6), kd, I, L, Rf)) := ⟨_, _, ⟨rfl, rfl⟩, w_brother_no d hL.1 hok⟩
    refine ep_callSW (M1 := mL_brother) (nn := 4) (rest := []) dL_law_372 (eb_tb5 133 rfl rfl) (eb_tb5 135 rfl rfl) (eb_tb1 0 rfl rfl) (eb_tb5 134 rfl rfl) ⟨by decide, by decide, rfl⟩ (Nat.le_of_ble_eq_true rfl) rfl (Nat.le_of_ble_eq_true rfl) rfl hE (fun _ _ h => Or.inl (by obtain ⟨_, h⟩ := h; rw [h])) ?_
    rintro _ _ ⟨rfl, rfl⟩
    show eb_P _ _ 375 [(4, .int (nI (5 * k))), (3, .ref 137), (2, .ref 112), (1, .ref 0), (0, .ref 1000060)] [.int 1] (138, (sl.1 + 1, sl.2 + 6), kd, I, L, Rf) _
    refine ep_istore (i := 5) (l' := (5, .int 1) :: [(4, .int (nI (5 * k))), (3, .ref 137), (2, .ref 112), (1, .ref 0), (0, .ref 1000060)]) dL_law_375 (by decide) rfl ?_
    by_cases hb0 : 0 ≤ xs (5 * k + 1) ∧ xs (5 * k + 1) < nI T.c
    · exact lt_6 d (sl1 := (sl.1 + 1, sl.2 + 6)) (t := 1) (w := L 137 0) (v := (0 : Int32)) (Nat.le_refl _) (Nat.le_refl _) hL.1.F hx hkN hk5 hN hL.2.2.1 (z_refZ hL.1 hBf hx rfl (y_X11_brother_nx d hL.2.1 hL.2.2.1 (by omega) hb0 (fun h => hok ⟨hb0, h⟩))) (fun h => absurd h (by decide)) ih
    · exact lt_6 d (sl1 := (sl.1 + 1, sl.2 + 6)) (t := 1) (w := L 137 0) (v := (0 : Int32)) (Nat.le_refl _) (Nat.le_refl _) hL.1.F hx hkN hk5 hN hL.2.2.1 (z_refZ hL.1 hBf hx rfl (y_X11_brother_no d hL.2.1 hL.2.2.1 (by omega) hb0 _)) (fun h => absurd h (by decide)) ih
theorem lt_7 (d : Nat) {k N f H : Nat} {sl sl1 : Nat × Nat} {kd : Nat → Nat × Nat} {I1 : Nat → Nat → Int32} {L1 : Nat → Nat → Int64} {R1 : Nat → Nat → Option Nat} {T : zT} {xs : Nat → Int32} {Φ : Option Value → eb_S → Prop} {t : Int32} {w : Int64} {v : Int32} (hs1 : sl1.1 ≤ sl.1 + 1) (hs2 : sl1.2 ≤ sl.2 + 6) (hF1 : zF 138 kd R1) (hx1 : I1 1000060 = xs) (hkN : (kd 1000060).2 = N) (hk5 : 5 * k + 5 ≤ N) (hN : N ≤ 2560) (hO : zOk H T) (hr : eb_Q mX11_price (d + 400) [.ref 112, .int (xs (5 * k + 1))] (138, sl1, kd, I1, L1, R1) (zpZ sl1 kd xs T f t w (some (.int v)))) (hvw : t = 0 → w = v.toInt64) (ih : zIH d k N sl kd xs H f Φ) : eb_P mL_law (d + 401) 439 ((5, .int t) :: [(4, .int (nI (5 * k))), (3, .ref 137), (2, .ref 112), (1, .ref 0), (0, .ref 1000060)]) [] (138, sl1, kd, I1, L1, R1) Φ := by
  refine ep_aload_n (i := 2) dL_law_439 rfl rfl ?_
  refine ep_aload_n (i := 0) dL_law_440 rfl rfl ?_
  refine ep_iload (i := 4) dL_law_441 rfl ?_
  refine ep_iconst (v := 1) dL_law_443 (by decide) ?_
  refine ep_iadd dL_law_444 ?_
  refine ep_topE (y := nI (5 * k + 1)) (nI_add _ _) ?_
  refine ep_xi dL_law_445 (Or.inr rfl) hkN (vp_in_nI (by omega) (by omega)) ?_
  refine ep_topE (y := xs (5 * k + 1)) (by rw [nI_clamp (by omega)]; exact congrFun hx1 _) ?_
  refine ep_callV (i := 112) (M1 := mX11_price) (rest := []) dL_law_446 mlL_65 mvX11_price rfl (Nat.le_of_ble_eq_true rfl) (hF1.kc (by decide) rfl) (Nat.le_of_ble_eq_true rfl) rfl hr zpZ_ok ?_
  rintro _ _ ⟨rfl, I2, L2, R2, rfl, hC2, hM2, ⟨B2, hB2⟩, h9, hx2, hw2⟩
  show eb_P _ _ 449 ((5, .int t) :: [(4, .int (nI (5 * k))), (3, .ref 137), (2, .ref 112), (1, .ref 0), (0, .ref 1000060)]) [.int v] (138, sl1, kd, I2, L2, R2) _
  refine ep_istore (i := 6) (l' := [(6, .int v), (5, .int t), (4, .int (nI (5 * k))), (3, .ref 137), (2, .ref 112), (1, .ref 0), (0, .ref 1000060)]) dL_law_449 (by decide) rfl ?_
  refine ep_aload_n (i := 2) dL_law_451 rfl rfl ?_
  refine ep_callV (i := 112) (M1 := mX11_thrown) (rest := []) dL_law_452 mlL_59 mvX11_thrown rfl (Nat.le_of_ble_eq_true rfl) (hC2.F.kc (by decide) rfl) (Nat.le_of_ble_eq_true rfl) rfl (z_thrZ (d + 400) hC2 hM2 hB2 h9 hx2 hw2) zpZ_ok ?_
  rintro _ _ ⟨rfl, I3, L3, R3, rfl, hC3, hM3, hB3, h9, hx3, hw3⟩
  show eb_P _ _ 455 [(6, .int v), (5, .int t), (4, .int (nI (5 * k))), (3, .ref 137), (2, .ref 112), (1, .ref 0), (0, .ref 1000060)] [.int t] (138, sl1, kd, I3, L3, R3) _
  refine ep_iload (i := 5) dL_law_455 rfl ?_
  refine ep_icmp_eq (tgt := 462) dL_law_457 (by decide) (fun _ => ?_) (fun h => absurd rfl h)
  have K : eb_P mL_law (d + 401) 479 [(6, .int v), (5, .int t), (4, .int (nI (5 * k))), (3, .ref 137), (2, .ref 112), (1, .ref 0), (0, .ref 1000060)] [] (138, sl1, kd, I3, L3, R3) Φ := ep_goto (tgt := 1563) dL_law_479 (by decide) (ep_sub (l' := [(4, .int (nI (5 * k))), (3, .ref 137), (2, .ref 112), (1, .ref 0), (0, .ref 1000060)]) [2, 3, 4, 5, 6] rfl (ih sl1 I3 L3 R3 T hs1 hs2 ⟨hC3, hM3, hO.le (by omega), hB3⟩ hx3))
  refine ep_iload (i := 5) dL_law_462 rfl ?_
  refine ep_if_ne (tgt := 479) dL_law_464 (by decide) (fun _ => K) (fun ht => ?_)
  refine ep_aload_n (i := 3) dL_law_467 rfl rfl ?_
  refine ep_iconst (v := 0) dL_law_468 (by decide) ?_
  refine ep_laN (k := 0) dL_law_469 (Nat.le_of_ble_eq_true rfl) (hC3.F.ka (c := 137) (x := (23, 1)) (by decide) rfl) (by decide) (by decide) ?_
  refine ep_iload (i := 6) dL_law_470 rfl ?_
  refine ep_i2l dL_law_472 rfl ?_
  refine ep_lcmp dL_law_473 ?_
  refine ep_topE (y := 0) (by rw [hw3, hvw (Decidable.not_not.mp ht)]; exact lg_cmp_self _) ?_
  exact ep_if_eq (tgt := 479) dL_law_474 (by decide) (fun _ => K) (fun h => absurd rfl h)
theorem lc_7 (d : Nat) {k N f H : Nat} {sl : Nat × Nat} {kd : Nat → Nat × Nat} {I : Nat → Nat → Int32} {L : Nat → Nat → Int64} {Rf : Nat → Nat → Option Nat} {T : zT} {xs : Nat → Int32} {Φ : Option Value → eb_S → Prop} (hL : zL 138 kd I L Rf T H (f + 100)) (hx : I 1000060 = xs) (hkN : (kd 1000060).2 = N) (hk5 : 5 * k + 5 ≤ N) (hN : N ≤ 2560) (hH : H ≤ 800000000) (ih : zIH d k N sl kd xs H f Φ) : eb_P mL_law (d + 401) 426 [(4, .int (nI (5 * k))), (3, .ref 137), (2, .ref 112), (1, .ref 0), (0, .ref 1000060)] [] (138, sl, kd, I, L, Rf) Φ := by
  obtain ⟨B0, hB0⟩ := hL.2.2.2
  refine ep_aload_n (i := 1) dL_law_426 rfl rfl ?_
  refine ep_aload_n (i := 0) dL_law_427 rfl rfl ?_
  refine ep_iload (i := 4) dL_law_428 rfl ?_
  refine ep_iconst (v := 1) dL_law_430 (by decide) ?_
  refine ep_iadd dL_law_431 ?_
  refine ep_topE (y := nI (5 * k + 1)) (nI_add _ _) ?_
  refine ep_xi dL_law_432 (Or.inr rfl) hkN (vp_in_nI (by omega) (by omega)) ?_
  refine ep_topE (y := xs (5 * k + 1)) (by rw [nI_clamp (by omega)]; exact congrFun hx _) ?_
  refine ep_aload_n (i := 3) dL_law_433 rfl rfl ?_
  by_cases hok : 0 ≤ xs (5 * k + 1) ∧ xs (5 * k + 1) ≤ 5
  · obtain ⟨b0, hb, hbe⟩ := pk_of (x := xs (5 * k + 1)) (c := 6) (by decide) hok.1 (by have := hok.2; rw [Int32.le_iff_toInt_le] at this; rw [Int32.lt_iff_toInt_lt]; have e : (5 : Int32).toInt = 5 := rfl; have e6 : (nI 6).toInt = 6 := rfl; omega)
    have hE : eb_QW mL_price [(0, 9, 12, 13)] (d + 400) [.ref 0, .int (xs (5 * k + 1)), .ref 137] (138, sl, kd, I, L, Rf) (fun r τ => r = some (.int 0) ∧ ∃ I1 L1 R1, τ = (138, sl, kd, I1, L1, R1) ∧ zC 138 kd I1 L1 R1 T ∧ zM 138 kd I1 L1 R1 T ∧ (∃ B, zInv f B I1) ∧ I1 1000060 = xs ∧ L1 137 0 = (T.pr b0).toInt64) := by rw [hbe]; exact w_price_ok d hL hx hH hb
    refine ep_callSW (M1 := mL_price) (nn := 3) (rest := []) dL_law_434 (eb_tb5 202 rfl rfl) (eb_tb5 204 rfl rfl) (eb_tb1 0 rfl rfl) (eb_tb5 203 rfl rfl) ⟨by decide, by decide, rfl⟩ (Nat.le_of_ble_eq_true rfl) rfl (Nat.le_of_ble_eq_true rfl) rfl hE (fun _ _ h => Or.inl (by obtain ⟨_, _, _, _, h, _⟩ := h; rw [h])) ?_
    rintro _ _ ⟨rfl, I1, L1, R1, rfl, hC1, hM1, ⟨B1, hB1⟩, hx1, hw⟩
    show eb_P _ _ 437 [(4, .int (nI (5 * k))), (3, .ref 137), (2, .ref 112), (1, .ref 0), (0, .ref 1000060)] [.int 0] (138, sl, kd, I1, L1, R1) _
    refine ep_istore (i := 5) (l' := (5, .int 0) :: [(4, .int (nI (5 * k))), (3, .ref 137), (2, .ref 112), (1, .ref 0), (0, .ref 1000060)]) dL_law_437 (by decide) rfl ?_
    exact lt_7 d (sl1 := sl) (t := 0) (w := (T.pr b0).toInt64) (v := T.pr b0) (Nat.le_add_right _ _) (Nat.le_add_right _ _) hC1.F hx1 hkN hk5 hN hL.2.2.1 (by rw [hbe]; exact z_refZ hC1 hB1 hx1 hw (y_X11_price_ok (d + 380) hM1 hL.2.2.1 hb)) (fun _ => rfl) ih
  · have hBf : zInv f B0 I := hB0.le (by omega)
    have hE : eb_QW mL_price [(0, 9, 12, 13)] (d + 400) [.ref 0, .int (xs (5 * k + 1)), .ref 137] (138, sl, kd, I, L, Rf) (fun r τ => r = some (.int 1) ∧ τ = (138, (sl.1 + 1, sl.2 + 6), kd, I, L, Rf)) := ⟨_, _, ⟨rfl, rfl⟩, w_price_no d hL.1 hok⟩
    refine ep_callSW (M1 := mL_price) (nn := 3) (rest := []) dL_law_434 (eb_tb5 202 rfl rfl) (eb_tb5 204 rfl rfl) (eb_tb1 0 rfl rfl) (eb_tb5 203 rfl rfl) ⟨by decide, by decide, rfl⟩ (Nat.le_of_ble_eq_true rfl) rfl (Nat.le_of_ble_eq_true rfl) rfl hE (fun _ _ h => Or.inl (by obtain ⟨_, h⟩ := h; rw [h])) ?_
    rintro _ _ ⟨rfl, rfl⟩
    show eb_P _ _ 437 [(4, .int (nI (5 * k))), (3, .ref 137), (2, .ref 112), (1, .ref 0), (0, .ref 1000060)] [.int 1] (138, (sl.1 + 1, sl.2 + 6), kd, I, L, Rf) _
    refine ep_istore (i := 5) (l' := (5, .int 1) :: [(4, .int (nI (5 * k))), (3, .ref 137), (2, .ref 112), (1, .ref 0), (0, .ref 1000060)]) dL_law_437 (by decide) rfl ?_
    exact lt_7 d (sl1 := (sl.1 + 1, sl.2 + 6)) (t := 1) (w := L 137 0) (v := (0 : Int32)) (Nat.le_refl _) (Nat.le_refl _) hL.1.F hx hkN hk5 hN hL.2.2.1 (z_refZ hL.1 hBf hx rfl (y_X11_price_no (d + 380) hL.2.1 hL.2.2.1 hok)) (fun h => absurd h (by decide)) ih
theorem lt_50 (d : Nat) {k N f H : Nat} {sl sl1 : Nat × Nat} {kd : Nat → Nat × Nat} {I1 : Nat → Nat → Int32} {L1 : Nat → Nat → Int64} {R1 : Nat → Nat → Option Nat} {T : zT} {xs : Nat → Int32} {Φ : Option Value → eb_S → Prop} {t : Int32} {w : Int64} {v : Int64} (hs1 : sl1.1 ≤ sl.1 + 1) (hs2 : sl1.2 ≤ sl.2 + 6) (hF1 : zF 138 kd R1) (hx1 : I1 1000060 = xs) (hkN : (kd 1000060).2 = N) (hk5 : 5 * k + 5 ≤ N) (hN : N ≤ 2560) (hO : zOk H T) (hr : eb_Q mX11_row (d + 400) [.ref 112, .int (xs (5 * k + 1))] (138, sl1, kd, I1, L1, R1) (zpZ sl1 kd xs T f t w (some (.long v)))) (hvw : t = 0 → w = v) (ih : zIH d k N sl kd xs H f Φ) : eb_P mL_law (d + 401) 1521 ((5, .int t) :: [(4, .int (nI (5 * k))), (3, .ref 137), (2, .ref 112), (1, .ref 0), (0, .ref 1000060)]) [] (138, sl1, kd, I1, L1, R1) Φ := by
  refine ep_aload_n (i := 2) dL_law_1521 rfl rfl ?_
  refine ep_aload_n (i := 0) dL_law_1522 rfl rfl ?_
  refine ep_iload (i := 4) dL_law_1523 rfl ?_
  refine ep_iconst (v := 1) dL_law_1525 (by decide) ?_
  refine ep_iadd dL_law_1526 ?_
  refine ep_topE (y := nI (5 * k + 1)) (nI_add _ _) ?_
  refine ep_xi dL_law_1527 (Or.inr rfl) hkN (vp_in_nI (by omega) (by omega)) ?_
  refine ep_topE (y := xs (5 * k + 1)) (by rw [nI_clamp (by omega)]; exact congrFun hx1 _) ?_
  refine ep_callV (i := 112) (M1 := mX11_row) (rest := []) dL_law_1528 mlL_238 mvX11_row rfl (Nat.le_of_ble_eq_true rfl) (hF1.kc (by decide) rfl) (Nat.le_of_ble_eq_true rfl) rfl hr zpZ_ok ?_
  rintro _ _ ⟨rfl, I2, L2, R2, rfl, hC2, hM2, ⟨B2, hB2⟩, h9, hx2, hw2⟩
  show eb_P _ _ 1531 ((5, .int t) :: [(4, .int (nI (5 * k))), (3, .ref 137), (2, .ref 112), (1, .ref 0), (0, .ref 1000060)]) [.long v] (138, sl1, kd, I2, L2, R2) _
  refine ep_lstore (i := 6) (l' := [(6, .long v), (5, .int t), (4, .int (nI (5 * k))), (3, .ref 137), (2, .ref 112), (1, .ref 0), (0, .ref 1000060)]) dL_law_1531 (by decide) rfl ?_
  refine ep_aload_n (i := 2) dL_law_1533 rfl rfl ?_
  refine ep_callV (i := 112) (M1 := mX11_thrown) (rest := []) dL_law_1534 mlL_59 mvX11_thrown rfl (Nat.le_of_ble_eq_true rfl) (hC2.F.kc (by decide) rfl) (Nat.le_of_ble_eq_true rfl) rfl (z_thrZ (d + 400) hC2 hM2 hB2 h9 hx2 hw2) zpZ_ok ?_
  rintro _ _ ⟨rfl, I3, L3, R3, rfl, hC3, hM3, hB3, h9, hx3, hw3⟩
  show eb_P _ _ 1537 [(6, .long v), (5, .int t), (4, .int (nI (5 * k))), (3, .ref 137), (2, .ref 112), (1, .ref 0), (0, .ref 1000060)] [.int t] (138, sl1, kd, I3, L3, R3) _
  refine ep_iload (i := 5) dL_law_1537 rfl ?_
  refine ep_icmp_eq (tgt := 1544) dL_law_1539 (by decide) (fun _ => ?_) (fun h => absurd rfl h)
  have K : eb_P mL_law (d + 401) 1560 [(6, .long v), (5, .int t), (4, .int (nI (5 * k))), (3, .ref 137), (2, .ref 112), (1, .ref 0), (0, .ref 1000060)] [] (138, sl1, kd, I3, L3, R3) Φ := ep_goto (tgt := 1563) dL_law_1560 (by decide) (ep_sub (l' := [(4, .int (nI (5 * k))), (3, .ref 137), (2, .ref 112), (1, .ref 0), (0, .ref 1000060)]) [2, 3, 4, 5, 6] rfl (ih sl1 I3 L3 R3 T hs1 hs2 ⟨hC3, hM3, hO.le (by omega), hB3⟩ hx3))
  refine ep_iload (i := 5) dL_law_1544 rfl ?_
  refine ep_if_ne (tgt := 1560) dL_law_1546 (by decide) (fun _ => K) (fun ht => ?_)
  refine ep_aload_n (i := 3) dL_law_1549 rfl rfl ?_
  refine ep_iconst (v := 0) dL_law_1550 (by decide) ?_
  refine ep_laN (k := 0) dL_law_1551 (Nat.le_of_ble_eq_true rfl) (hC3.F.ka (c := 137) (x := (23, 1)) (by decide) rfl) (by decide) (by decide) ?_
  refine ep_lload (i := 6) dL_law_1552 rfl ?_
  refine ep_lcmp dL_law_1554 ?_
  refine ep_topE (y := 0) (by rw [hw3, hvw (Decidable.not_not.mp ht)]; exact lg_cmp_self _) ?_
  exact ep_if_eq (tgt := 1560) dL_law_1555 (by decide) (fun _ => K) (fun h => absurd rfl h)
theorem z_row_lt {m : Nat} {x : Int32} (hm : m ≤ 8) (h0 : 0 ≤ x) (h : x ≤ nI m - 1) : x < nI m := by
  rw [Int32.le_iff_toInt_le] at h0 h
  rw [Int32.lt_iff_toInt_lt]
  have e : (nI m - 1).toInt = (m : Int) - 1 := by
    have h9 : m = 0 ∨ m = 1 ∨ m = 2 ∨ m = 3 ∨ m = 4 ∨ m = 5 ∨ m = 6 ∨ m = 7 ∨ m = 8 := by omega
    rcases h9 with rfl | rfl | rfl | rfl | rfl | rfl | rfl | rfl | rfl <;> rfl
  have e2 : (nI m).toInt = (m : Int) := by
    have h9 : m = 0 ∨ m = 1 ∨ m = 2 ∨ m = 3 ∨ m = 4 ∨ m = 5 ∨ m = 6 ∨ m = 7 ∨ m = 8 := by omega
    rcases h9 with rfl | rfl | rfl | rfl | rfl | rfl | rfl | rfl | rfl <;> rfl
  omega
theorem lc_50 (d : Nat) {k N f H : Nat} {sl : Nat × Nat} {kd : Nat → Nat × Nat} {I : Nat → Nat → Int32} {L : Nat → Nat → Int64} {Rf : Nat → Nat → Option Nat} {T : zT} {xs : Nat → Int32} {Φ : Option Value → eb_S → Prop} (hL : zL 138 kd I L Rf T H (f + 100)) (hx : I 1000060 = xs) (hkN : (kd 1000060).2 = N) (hk5 : 5 * k + 5 ≤ N) (hN : N ≤ 2560) (hH : H ≤ 800000000) (ih : zIH d k N sl kd xs H f Φ) : eb_P mL_law (d + 401) 1508 [(4, .int (nI (5 * k))), (3, .ref 137), (2, .ref 112), (1, .ref 0), (0, .ref 1000060)] [] (138, sl, kd, I, L, Rf) Φ := by
  obtain ⟨B0, hB0⟩ := hL.2.2.2
  refine ep_aload_n (i := 1) dL_law_1508 rfl rfl ?_
  refine ep_aload_n (i := 0) dL_law_1509 rfl rfl ?_
  refine ep_iload (i := 4) dL_law_1510 rfl ?_
  refine ep_iconst (v := 1) dL_law_1512 (by decide) ?_
  refine ep_iadd dL_law_1513 ?_
  refine ep_topE (y := nI (5 * k + 1)) (nI_add _ _) ?_
  refine ep_xi dL_law_1514 (Or.inr rfl) hkN (vp_in_nI (by omega) (by omega)) ?_
  refine ep_topE (y := xs (5 * k + 1)) (by rw [nI_clamp (by omega)]; exact congrFun hx _) ?_
  refine ep_aload_n (i := 3) dL_law_1515 rfl rfl ?_
  by_cases hok : 0 ≤ xs (5 * k + 1) ∧ xs (5 * k + 1) ≤ nI T.rw.length - 1
  · obtain ⟨b0, hb, hbe⟩ := pk_of (x := xs (5 * k + 1)) (c := T.rw.length) (by have := hL.2.2.1.rwl; omega) hok.1 (z_row_lt hL.2.2.1.rwl hok.1 hok.2)
    have hE : eb_QW mL_row [(0, 8, 11, 13)] (d + 400) [.ref 0, .int (xs (5 * k + 1)), .ref 137] (138, sl, kd, I, L, Rf) (fun r τ => r = some (.int 0) ∧ ∃ I1 L1 R1, τ = (138, sl, kd, I1, L1, R1) ∧ zC 138 kd I1 L1 R1 T ∧ zM 138 kd I1 L1 R1 T ∧ (∃ B, zInv f B I1) ∧ I1 1000060 = xs ∧ L1 137 0 = T.rw.getD b0 0) := by rw [hbe]; exact w_row_ok d hL hx hH hb
    refine ep_callSW (M1 := mL_row) (nn := 3) (rest := []) dL_law_1516 (eb_tb5 210 rfl rfl) (eb_tb5 212 rfl rfl) (eb_tb1 0 rfl rfl) (eb_tb5 211 rfl rfl) ⟨by decide, by decide, rfl⟩ (Nat.le_of_ble_eq_true rfl) rfl (Nat.le_of_ble_eq_true rfl) rfl hE (fun _ _ h => Or.inl (by obtain ⟨_, _, _, _, h, _⟩ := h; rw [h])) ?_
    rintro _ _ ⟨rfl, I1, L1, R1, rfl, hC1, hM1, ⟨B1, hB1⟩, hx1, hw⟩
    show eb_P _ _ 1519 [(4, .int (nI (5 * k))), (3, .ref 137), (2, .ref 112), (1, .ref 0), (0, .ref 1000060)] [.int 0] (138, sl, kd, I1, L1, R1) _
    refine ep_istore (i := 5) (l' := (5, .int 0) :: [(4, .int (nI (5 * k))), (3, .ref 137), (2, .ref 112), (1, .ref 0), (0, .ref 1000060)]) dL_law_1519 (by decide) rfl ?_
    exact lt_50 d (sl1 := sl) (t := 0) (w := T.rw.getD b0 0) (v := T.rw.getD b0 0) (Nat.le_add_right _ _) (Nat.le_add_right _ _) hC1.F hx1 hkN hk5 hN hL.2.2.1 (by rw [hbe]; exact z_refZ hC1 hB1 hx1 hw (y_X11_row_ok (d + 380) hM1 hL.2.2.1 hb)) (fun _ => rfl) ih
  · have hBf : zInv f B0 I := hB0.le (by omega)
    have hE : eb_QW mL_row [(0, 8, 11, 13)] (d + 400) [.ref 0, .int (xs (5 * k + 1)), .ref 137] (138, sl, kd, I, L, Rf) (fun r τ => r = some (.int 1) ∧ τ = (138, (sl.1 + 1, sl.2 + 6), kd, I, L, Rf)) := ⟨_, _, ⟨rfl, rfl⟩, w_row_no d hL.1 hok⟩
    refine ep_callSW (M1 := mL_row) (nn := 3) (rest := []) dL_law_1516 (eb_tb5 210 rfl rfl) (eb_tb5 212 rfl rfl) (eb_tb1 0 rfl rfl) (eb_tb5 211 rfl rfl) ⟨by decide, by decide, rfl⟩ (Nat.le_of_ble_eq_true rfl) rfl (Nat.le_of_ble_eq_true rfl) rfl hE (fun _ _ h => Or.inl (by obtain ⟨_, h⟩ := h; rw [h])) ?_
    rintro _ _ ⟨rfl, rfl⟩
    show eb_P _ _ 1519 [(4, .int (nI (5 * k))), (3, .ref 137), (2, .ref 112), (1, .ref 0), (0, .ref 1000060)] [.int 1] (138, (sl.1 + 1, sl.2 + 6), kd, I, L, Rf) _
    refine ep_istore (i := 5) (l' := (5, .int 1) :: [(4, .int (nI (5 * k))), (3, .ref 137), (2, .ref 112), (1, .ref 0), (0, .ref 1000060)]) dL_law_1519 (by decide) rfl ?_
    exact lt_50 d (sl1 := (sl.1 + 1, sl.2 + 6)) (t := 1) (w := L 137 0) (v := (0 : Int64)) (Nat.le_refl _) (Nat.le_refl _) hL.1.F hx hkN hk5 hN hL.2.2.1 (z_refZ hL.1 hBf hx rfl (y_X11_row_no (d + 380) hL.2.1 hL.2.2.1 hok)) (fun h => absurd h (by decide)) ih
