/-! the law's loop -/
theorem z_and63 (x : Int32) : ∃ v, v < 64 ∧ x &&& 63 = nI v := by
  have h0 : (x &&& 63).toBitVec.toNat < 64 := by
    have h1 : (x &&& 63).toBitVec.toNat = x.toBitVec.toNat &&& 63 := rfl
    rw [h1]
    exact Nat.lt_succ_of_le Nat.and_le_right
  refine ⟨_, h0, ?_⟩
  rw [← Int32.toBitVec_inj]
  apply BitVec.eq_of_toNat_eq
  show _ = (BitVec.ofNat 32 (x &&& 63).toBitVec.toNat).toNat
  rw [BitVec.toNat_ofNat, Nat.mod_eq_of_lt (by omega)]
theorem lc_all (d : Nat) {k N f H : Nat} {sl : Nat × Nat} {kd : Nat → Nat × Nat} {I : Nat → Nat → Int32} {L : Nat → Nat → Int64} {Rf : Nat → Nat → Option Nat} {T : zT} {xs : Nat → Int32} {Φ : Option Value → eb_S → Prop} (hL : zL 138 kd I L Rf T H (f + 100)) (hx : I 1000060 = xs) (hkN : (kd 1000060).2 = N) (hk5 : 5 * k + 5 ≤ N) (hN : N ≤ 2560) (hH : H ≤ 800000000) (ih : zIH d k N sl kd xs H f Φ) : eb_P mL_law (d + 401) 39 [(4, .int (nI (5 * k))), (3, .ref 137), (2, .ref 112), (1, .ref 0), (0, .ref 1000060)] [.int (xs (5 * k) &&& 63)] (138, sl, kd, I, L, Rf) Φ := by
  obtain ⟨v, hv, e⟩ := z_and63 (xs (5 * k))
  refine ep_topE e ?_
  match v, hv with
  | 0, _ => exact ep_tin (tgt := 256) dL_law_39 (by decide) (by decide) rfl (by decide) (lc_0 d hL hx hkN hk5 hN hH ih)
  | 1, _ => exact ep_tin (tgt := 281) dL_law_39 (by decide) (by decide) rfl (by decide) (lc_1 d hL hx hkN hk5 hN hH ih)
  | 2, _ => exact ep_tin (tgt := 306) dL_law_39 (by decide) (by decide) rfl (by decide) (lc_2 d hL hx hkN hk5 hN hH ih)
  | 3, _ => exact ep_tin (tgt := 319) dL_law_39 (by decide) (by decide) rfl (by decide) (lc_3 d hL hx hkN hk5 hN hH ih)
  | 4, _ => exact ep_tin (tgt := 332) dL_law_39 (by decide) (by decide) rfl (by decide) (lc_4 d hL hx hkN hk5 hN hH ih)
  | 5, _ => exact ep_tin (tgt := 345) dL_law_39 (by decide) (by decide) rfl (by decide) (lc_5 d hL hx hkN hk5 hN hH ih)
  | 6, _ => exact ep_tin (tgt := 358) dL_law_39 (by decide) (by decide) rfl (by decide) (lc_6 d hL hx hkN hk5 hN hH ih)
  | 7, _ => exact ep_tin (tgt := 426) dL_law_39 (by decide) (by decide) rfl (by decide) (lc_7 d hL hx hkN hk5 hN hH ih)
  | 8, _ => exact ep_tin (tgt := 482) dL_law_39 (by decide) (by decide) rfl (by decide) (lc_8 d hL hx hkN hk5 hN hH ih)
  | 9, _ => exact ep_tin (tgt := 543) dL_law_39 (by decide) (by decide) rfl (by decide) (lc_9 d hL hx hkN hk5 hN hH ih)
  | 10, _ => exact ep_tin (tgt := 568) dL_law_39 (by decide) (by decide) rfl (by decide) (lc_10 d hL hx hkN hk5 hN hH ih)
  | 11, _ => exact ep_tin (tgt := 605) dL_law_39 (by decide) (by decide) rfl (by decide) (lc_11 d hL hx hkN hk5 hN hH ih)
  | 12, _ => exact ep_tin (tgt := 642) dL_law_39 (by decide) (by decide) rfl (by decide) (lc_12 d hL hx hkN hk5 hN hH ih)
  | 13, _ => exact ep_tin (tgt := 667) dL_law_39 (by decide) (by decide) rfl (by decide) (lc_13 d hL hx hkN hk5 hN hH ih)
  | 14, _ => exact ep_tin (tgt := 704) dL_law_39 (by decide) (by decide) rfl (by decide) (lc_14 d hL hx hkN hk5 hN hH ih)
  | 15, _ => exact ep_tin (tgt := 729) dL_law_39 (by decide) (by decide) rfl (by decide) (lc_15 d hL hx hkN hk5 hN hH ih)
  | 16, _ => exact ep_tin (tgt := 742) dL_law_39 (by decide) (by decide) rfl (by decide) (lc_16 d hL hx hkN hk5 hN hH ih)
  | 17, _ => exact ep_tin (tgt := 755) dL_law_39 (by decide) (by decide) rfl (by decide) (lc_17 d hL hx hkN hk5 hN hH ih)
  | 18, _ => exact ep_tin (tgt := 768) dL_law_39 (by decide) (by decide) rfl (by decide) (lc_18 d hL hx hkN hk5 hN hH ih)
  | 19, _ => exact ep_tin (tgt := 793) dL_law_39 (by decide) (by decide) rfl (by decide) (lc_19 d hL hx hkN hk5 hN hH ih)
  | 20, _ => exact ep_tin (tgt := 806) dL_law_39 (by decide) (by decide) rfl (by decide) (lc_20 d hL hx hkN hk5 hN hH ih)
  | 21, _ => exact ep_tin (tgt := 831) dL_law_39 (by decide) (by decide) rfl (by decide) (lc_21 d hL hx hkN hk5 hN hH ih)
  | 22, _ => exact ep_tin (tgt := 856) dL_law_39 (by decide) (by decide) rfl (by decide) (lc_22 d hL hx hkN hk5 hN hH ih)
  | 23, _ => exact ep_tin (tgt := 893) dL_law_39 (by decide) (by decide) rfl (by decide) (lc_23 d hL hx hkN hk5 hN hH ih)
  | 24, _ => exact ep_tin (tgt := 918) dL_law_39 (by decide) (by decide) rfl (by decide) (lc_24 d hL hx hkN hk5 hN hH ih)
  | 25, _ => exact ep_tin (tgt := 943) dL_law_39 (by decide) (by decide) rfl (by decide) (lc_25 d hL hx hkN hk5 hN hH ih)
  | 26, _ => exact ep_tin (tgt := 968) dL_law_39 (by decide) (by decide) rfl (by decide) (lc_26 d hL hx hkN hk5 hN hH ih)
  | 27, _ => exact ep_tin (tgt := 993) dL_law_39 (by decide) (by decide) rfl (by decide) (lc_27 d hL hx hkN hk5 hN hH ih)
  | 28, _ => exact ep_tin (tgt := 1006) dL_law_39 (by decide) (by decide) rfl (by decide) (lc_28 d hL hx hkN hk5 hN hH ih)
  | 29, _ => exact ep_tin (tgt := 1019) dL_law_39 (by decide) (by decide) rfl (by decide) (lc_29 d hL hx hkN hk5 hN hH ih)
  | 30, _ => exact ep_tin (tgt := 1032) dL_law_39 (by decide) (by decide) rfl (by decide) (lc_30 d hL hx hkN hk5 hN hH ih)
  | 31, _ => exact ep_tin (tgt := 1057) dL_law_39 (by decide) (by decide) rfl (by decide) (lc_31 d hL hx hkN hk5 hN hH ih)
  | 32, _ => exact ep_tin (tgt := 1070) dL_law_39 (by decide) (by decide) rfl (by decide) (lc_32 d hL hx hkN hk5 hN hH ih)
  | 33, _ => exact ep_tin (tgt := 1083) dL_law_39 (by decide) (by decide) rfl (by decide) (lc_33 d hL hx hkN hk5 hN hH ih)
  | 34, _ => exact ep_tin (tgt := 1096) dL_law_39 (by decide) (by decide) rfl (by decide) (lc_34 d hL hx hkN hk5 hN hH ih)
  | 35, _ => exact ep_tin (tgt := 1145) dL_law_39 (by decide) (by decide) rfl (by decide) (lc_35 d hL hx hkN hk5 hN hH ih)
  | 36, _ => exact ep_tin (tgt := 1158) dL_law_39 (by decide) (by decide) rfl (by decide) (lc_36 d hL hx hkN hk5 hN hH ih)
  | 37, _ => exact ep_tin (tgt := 1183) dL_law_39 (by decide) (by decide) rfl (by decide) (lc_37 d hL hx hkN hk5 hN hH ih)
  | 38, _ => exact ep_tin (tgt := 1208) dL_law_39 (by decide) (by decide) rfl (by decide) (lc_38 d hL hx hkN hk5 hN hH ih)
  | 39, _ => exact ep_tin (tgt := 1245) dL_law_39 (by decide) (by decide) rfl (by decide) (lc_39 d hL hx hkN hk5 hN hH ih)
  | 40, _ => exact ep_tin (tgt := 1258) dL_law_39 (by decide) (by decide) rfl (by decide) (lc_40 d hL hx hkN hk5 hN hH ih)
  | 41, _ => exact ep_tin (tgt := 1271) dL_law_39 (by decide) (by decide) rfl (by decide) (lc_41 d hL hx hkN hk5 hN hH ih)
  | 42, _ => exact ep_tin (tgt := 1284) dL_law_39 (by decide) (by decide) rfl (by decide) (lc_42 d hL hx hkN hk5 hN hH ih)
  | 43, _ => exact ep_tin (tgt := 1321) dL_law_39 (by decide) (by decide) rfl (by decide) (lc_43 d hL hx hkN hk5 hN hH ih)
  | 44, _ => exact ep_tin (tgt := 1358) dL_law_39 (by decide) (by decide) rfl (by decide) (lc_44 d hL hx hkN hk5 hN hH ih)
  | 45, _ => exact ep_tin (tgt := 1383) dL_law_39 (by decide) (by decide) rfl (by decide) (lc_45 d hL hx hkN hk5 hN hH ih)
  | 46, _ => exact ep_tin (tgt := 1396) dL_law_39 (by decide) (by decide) rfl (by decide) (lc_46 d hL hx hkN hk5 hN hH ih)
  | 47, _ => exact ep_tin (tgt := 1433) dL_law_39 (by decide) (by decide) rfl (by decide) (lc_47 d hL hx hkN hk5 hN hH ih)
  | 48, _ => exact ep_tin (tgt := 1458) dL_law_39 (by decide) (by decide) rfl (by decide) (lc_48 d hL hx hkN hk5 hN hH ih)
  | 49, _ => exact ep_tin (tgt := 1483) dL_law_39 (by decide) (by decide) rfl (by decide) (lc_49 d hL hx hkN hk5 hN hH ih)
  | 50, _ => exact ep_tin (tgt := 1508) dL_law_39 (by decide) (by decide) rfl (by decide) (lc_50 d hL hx hkN hk5 hN hH ih)
  | w + 51, hw =>
    obtain ⟨B0, hB0⟩ := hL.2.2.2
    exact ep_tout (tgt := 1563) dL_law_39 (Or.inr (by rw [nI_toInt (by omega)]; omega)) (by decide) (ih sl I L Rf T (Nat.le_add_right _ _) (Nat.le_add_right _ _) ⟨hL.1, hL.2.1, hL.2.2.1.le (by omega), B0, hB0.le (by omega)⟩ hx)
/-- the law's loop: every round leaves both with one state -/
theorem l_loop (d : Nat) {N : Nat} {sl0 : Nat × Nat} {kd : Nat → Nat × Nat} {xs : Nat → Int32} {Φ : Option Value → eb_S → Prop} (hkN : (kd 1000060).2 = N) (hN : N ≤ 2560) (he : ∀ sl I L R, sl.1 ≤ sl0.1 + 512 → sl.2 ≤ sl0.2 + 3072 → Φ (some (.int 1)) (138, sl, kd, I, L, R)) {I : Nat → Nat → Int32} {L : Nat → Nat → Int64} {Rf : Nat → Nat → Option Nat} {T : zT} (hL : zL 138 kd I L Rf T 1 900000000) (hx : I 1000060 = xs) : eb_P mL_law (d + 401) 23 [(4, .int (nI (5 * 0))), (3, .ref 137), (2, .ref 112), (1, .ref 0), (0, .ref 1000060)] [] (138, sl0, kd, I, L, Rf) Φ := by
  have hlp := ep_for (M := mL_law) (d := d + 401) (pc := 23) (Φ := Φ) (N / 5) (fun k (a : (Nat × Nat) × (Nat → Nat → Int32) × (Nat → Nat → Int64) × (Nat → Nat → Option Nat)) => ([(4, .int (nI (5 * k))), (3, .ref 137), (2, .ref 112), (1, .ref 0), (0, .ref 1000060)], (138, a.1, kd, a.2.1, a.2.2.1, a.2.2.2))) (fun k a => a.1.1 ≤ sl0.1 + k ∧ a.1.2 ≤ sl0.2 + 6 * k ∧ (∃ T, zL 138 kd a.2.1 a.2.2.1 a.2.2.2 T (1 + 270 * k) (900000000 - 100 * k)) ∧ a.2.1 1000060 = xs) ?_ ?_ (N / 5) 0 (sl0, I, L, Rf) (Nat.add_zero _) ⟨Nat.le_refl _, Nat.le_refl _, ⟨T, hL⟩, hx⟩
  · exact hlp
  · rintro k ⟨sl, I, L, Rf⟩ hk ⟨h1, h2, ⟨T, hL⟩, hx⟩ hi
    have hk5 : 5 * k + 5 ≤ N := by omega
    have hL : zL 138 kd I L Rf T (1 + 270 * k) (900000000 - 100 * (k + 1) + 100) := by
      rw [show 900000000 - 100 * (k + 1) + 100 = 900000000 - 100 * k by omega]; exact hL
    show eb_P mL_law (d + 401) 23 [(4, .int (nI (5 * k))), (3, .ref 137), (2, .ref 112), (1, .ref 0), (0, .ref 1000060)] [] (138, sl, kd, I, L, Rf) Φ
    refine ep_iload (i := 4) dL_law_23 rfl ?_
    refine ep_aload_n (i := 0) dL_law_25 rfl rfl ?_
    refine ep_xlen (v := nI N) dL_law_26 (Or.inr rfl) (by show Int32.ofNat (kd 1000060).2 = nI N; rw [hkN]; rfl) ?_
    refine ep_iconst (v := nI 5) dL_law_27 (by decide) ?_
    refine ep_isub dL_law_28 ?_
    refine ep_icmp_gt (tgt := 1569) dL_law_29 (by decide) (fun h => ?_) (fun _ => ?_)
    · exfalso
      rw [Int32.lt_iff_toInt_lt, pk_sub_toInt (by omega) (by omega), nI_toInt (by omega)] at h
      omega
    refine ep_aload_n (i := 0) dL_law_32 rfl rfl ?_
    refine ep_iload (i := 4) dL_law_33 rfl ?_
    refine ep_xi dL_law_35 (Or.inr rfl) hkN (vp_in_nI (by omega) (by omega)) ?_
    refine ep_topE (y := xs (5 * k)) (by rw [nI_clamp (by omega)]; exact congrFun hx _) ?_
    refine ep_bipush (v := 63) dL_law_36 (by decide) ?_
    refine ep_iand dL_law_38 ?_
    refine lc_all d hL hx hkN hk5 hN (by omega) ?_
    intro sl' I' L' R' T' g1 g2 hL' hx'
    refine ep_iinc (i := 4) (v := nI (5 * (k + 1))) (l' := [(4, .int (nI (5 * (k + 1)))), (3, .ref 137), (2, .ref 112), (1, .ref 0), (0, .ref 1000060)]) dL_law_1563 rfl (nI_5k k) (by decide) rfl ?_
    refine ep_goto (tgt := 23) dL_law_1566 (by decide) ?_
    exact hi (sl', I', L', R') ⟨by show sl'.1 ≤ _; have h1 : sl.1 ≤ _ := h1; omega, by show sl'.2 ≤ _; have h2 : sl.2 ≤ _ := h2; omega, ⟨T', by rw [show 1 + 270 * (k + 1) = 1 + 270 * k + 270 by omega]; exact hL'⟩, hx'⟩
  · rintro ⟨sl, I, L, Rf⟩ ⟨h1, h2, -, hx⟩
    show eb_P mL_law (d + 401) 23 [(4, .int (nI (5 * (N / 5)))), (3, .ref 137), (2, .ref 112), (1, .ref 0), (0, .ref 1000060)] [] (138, sl, kd, I, L, Rf) Φ
    refine ep_iload (i := 4) dL_law_23 rfl ?_
    refine ep_aload_n (i := 0) dL_law_25 rfl rfl ?_
    refine ep_xlen (v := nI N) dL_law_26 (Or.inr rfl) (by show Int32.ofNat (kd 1000060).2 = nI N; rw [hkN]; rfl) ?_
    refine ep_iconst (v := nI 5) dL_law_27 (by decide) ?_
    refine ep_isub dL_law_28 ?_
    refine ep_icmp_gt (tgt := 1569) dL_law_29 (by decide) (fun _ => ?_) (fun h => ?_)
    · refine ep_iconst (v := 1) dL_law_1569 (by decide) ?_
      refine ep_iret dL_law_1570 rfl rfl ?_
      have h1 : sl.1 ≤ sl0.1 + N / 5 := h1
      have h2 : sl.2 ≤ sl0.2 + 6 * (N / 5) := h2
      exact he sl I L Rf (by omega) (by omega)
    · exfalso
      rw [Int32.lt_iff_toInt_lt, pk_sub_toInt (by omega) (by omega), nI_toInt (by omega)] at h
      omega
