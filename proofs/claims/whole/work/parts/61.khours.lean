/-! the class: pulls, weighing, hours to come -/
theorem zC.unl {n : Nat} {kd : Nat → Nat × Nat} {I : Nat → Nat → Int32} {L : Nat → Nat → Int64} {Rf : Nat → Nat → Option Nat} {T : zT} (h : zC n kd I L Rf T) : I 33 2 = nI T.un.length := by obtain ⟨o, _, _, h, _⟩ := h.un; exact h
theorem k_has {n : Nat} {sl : Nat × Nat} {kd : Nat → Nat × Nat} {I : Nat → Nat → Int32} {L : Nat → Nat → Int64} {Rf : Nat → Nat → Option Nat} (d : Nat) {T : zT} (hC : zC n kd I L Rf T) (b : Int32) : zq mX7_has d [.ref 21, .int b] (n, sl, kd, I, L, Rf) (eb_b (0 ≤ b ∧ b < nI T.c) (n, sl, kd, I, L, Rf)) := by
  have h := y_X7_has (sl := sl) (I := I) (L := L) d (i := 21) (hC.F.shp (by decide)) (by decide) b
  rw [hC.sh.cr] at h
  exact h
theorem k_pbb {n : Nat} {sl : Nat × Nat} {kd : Nat → Nat × Nat} {I : Nat → Nat → Int32} {L : Nat → Nat → Int64} {Rf : Nat → Nat → Option Nat} (d : Nat) {T : zT} {H : Nat} (hC : zC n kd I L Rf T) (hO : zOk H T) (hH : H ≤ 1000000000) (v : Int32) : zq mX10_pullByBallast (d + 20) [.ref 0, .int v] (n, sl, kd, I, L, Rf) (eb_r (z_pull v (zhw T T.x) (T.x 21)) (n, sl, kd, I, L, Rf)) := by
  have hF := hC.F; have hc7 := hO.c
  have hK0 : zK n kd I L Rf I I L Rf T none none false := zK.start hC
  intro f B
  refine ez_meth pn_X.2.2.2.2.2.2.2.2.2.2.1 (Nat.le_of_ble_eq_true rfl) ?_
  show ez_P _ _ _ _ _ _ 0 [(0, .ref 0), (1, .int v)] [] (n, sl, kd, I, L, Rf) _
  refine ez_iload_n (i := 1) dX10_pullByBallast_0 rfl rfl ?_
  refine ez_aload_n (i := 0) dX10_pullByBallast_1 rfl rfl ?_
  refine ez_getR dX10_pullByBallast_2 flX10_26 (hF.lt (by decide)) (hF.kc (by decide) rfl) (hF.pt 4 rfl) ?_
  refine ez_aload_n (i := 0) dX10_pullByBallast_5 rfl rfl ?_
  refine ez_getR dX10_pullByBallast_6 flX10_33 (hF.lt (by decide)) (hF.kc (by decide) rfl) (hF.pt 21 rfl) ?_
  refine ez_getI dX10_pullByBallast_9 flX10_266 (hF.lt (by decide)) (hF.kc (by decide) rfl) ?_
  refine ez_topE (y := T.x 25) hK0.C.sh.h ?_
  refine ez_callV (M1 := mX6_windAt) (rest := [.int v]) dX10_pullByBallast_12 mlX10_269 mvX6_windAt rfl (hF.lt (by decide)) (hF.kc (by decide) rfl) (Nat.le_of_ble_eq_true rfl) rfl (k_wind (T := T) (I := I) (L := L) (d + 19) hK0.C hO (x := T.x) hO.x (by omega)) eb_rok ?_
  rintro _ _ ⟨rfl, rfl⟩
  show ez_P _ _ _ _ _ _ 15 [(0, .ref 0), (1, .int v)] (.int (zhw T T.x) :: [.int v]) _ _
  refine ez_aload_n (i := 0) dX10_pullByBallast_15 rfl rfl ?_
  refine ez_getR dX10_pullByBallast_16 flX10_33 (hF.lt (by decide)) (hF.kc (by decide) rfl) (hF.pt 21 rfl) ?_
  refine ez_getI dX10_pullByBallast_19 flX10_272 (hF.lt (by decide)) (hF.kc (by decide) rfl) ?_
  refine ez_topE (y := T.x 21) hK0.C.sh.s ?_
  refine ez_callS (M1 := mX10_pullOf) (rest := []) dX10_pullByBallast_22 mlX10_275 msX10_pullOf rfl (Nat.le_of_ble_eq_true rfl) rfl (zq_r (q_X10_pullOf (d + 18) v (zhw T T.x) (T.x 21)) (n, sl, kd, I, L, Rf)) eb_rok ?_
  rintro _ _ ⟨rfl, rfl⟩
  show ez_P _ _ _ _ _ _ 25 [(0, .ref 0), (1, .int v)] (.int (z_pull v (zhw T T.x) (T.x 21)) :: []) _ _
  refine ez_iret dX10_pullByBallast_25 rfl rfl ?_
  exact ⟨rfl, rfl⟩
theorem k_look {n : Nat} {sl : Nat × Nat} {kd : Nat → Nat × Nat} {I : Nat → Nat → Int32} {L : Nat → Nat → Int64} {Rf : Nat → Nat → Option Nat} (d : Nat) {T : zT} {H : Nat} (hC : zC n kd I L Rf T) (hO : zOk H T) (f : Nat) (B : Nat → Int32) : ez_Q (f + 1) B f (fun C => C = zBm T T.x) mX10_lookAhead (d + 20) [.ref 0] (n, sl, kd, I, L, Rf) (eb_v (n, sl, kd, z_cp I 25 21 T.c, L, Rf)) := by
  have hF := hC.F; have hc7 := hO.c
  have hK0 : zK n kd I L Rf I I L Rf T none none false := zK.start hC
  refine ez_meth pn_X.2.2.2.2.2.2.2.2.2.2.1 (Nat.le_of_ble_eq_true rfl) ?_
  show ez_P _ _ _ _ _ _ 0 [(0, .ref 0)] [] (n, sl, kd, I, L, Rf) _
  refine ez_aload_n (i := 0) dX10_lookAhead_0 rfl rfl ?_
  refine ez_getR dX10_lookAhead_1 flX10_37 (hF.lt (by decide)) (hF.kc (by decide) rfl) (hF.pt 25 rfl) ?_
  refine ez_aload_n (i := 0) dX10_lookAhead_4 rfl rfl ?_
  refine ez_getR dX10_lookAhead_5 flX10_33 (hF.lt (by decide)) (hF.kc (by decide) rfl) (hF.pt 21 rfl) ?_
  refine ez_callV (M1 := mX7_copy) (rest := []) dX10_lookAhead_8 mlX10_188 mvX7_copy rfl (hF.lt (by decide)) (hF.kc (by decide) rfl) (Nat.le_of_ble_eq_true rfl) rfl (y_X7_copy (I := I) (L := L) (d + 19) (i := 25) (j := 21) (hF.shp (by decide)) (by decide) (hF.shp (by decide)) (by decide) (by decide) hK0.C.sh.cr hO.c) (eb_vok rfl) ?_
  rintro _ _ ⟨rfl, rfl⟩
  refine ez_nmI (fun I1 hI1 => ?_)
  show ez_P _ _ _ _ _ _ 11 [(0, .ref 0)] [] (n, sl, kd, I1, L, Rf) _
  have hK2 : zK n kd I L Rf I I1 L Rf T (some T.x) none false := by rw [hI1]; exact hK0.cpg
  refine ez_aload_n (i := 0) dX10_lookAhead_11 rfl rfl ?_
  refine ez_getR dX10_lookAhead_12 flX10_26 (hF.lt (by decide)) (hF.kc (by decide) rfl) (hF.pt 4 rfl) ?_
  refine ez_callVm (M1 := mX6_begin) (rest := []) dX10_lookAhead_15 mlX10_192 mvX6_begin rfl (hF.lt (by decide)) (hF.kc (by decide) rfl) (Nat.le_of_ble_eq_true rfl) rfl (k_begin (T := T) (I := I1) (L := L) (d + 19) hK2.C (f + 0) _ (zBm T T.x)) (eb_vok rfl) ?_
  rintro _ _ _ rfl ⟨rfl, rfl⟩
  show ez_P _ _ _ _ _ _ 18 [(0, .ref 0)] [] (n, sl, kd, I1, L, Rf) _
  refine ez_vret dX10_lookAhead_18 rfl ?_
  exact ⟨by rw [hI1], rfl⟩
def k_wo (n : Nat) (sl : Nat × Nat) (kd : Nat → Nat × Nat) (I : Nat → Nat → Int32) (L : Nat → Nat → Int64) (Rf : Nat → Nat → Option Nat) (T : zT) : Option Value → eb_S → Prop := fun r τ => r = none ∧ ∃ I1, τ = (n, sl, kd, I1, L, Rf) ∧ (∀ b, b < T.c → I1 108 b = zwt T T.x b) ∧ ∀ c, c ≠ 108 → I1 c = I c
theorem k_wo_ok {n : Nat} {sl : Nat × Nat} {kd : Nat → Nat × Nat} {I : Nat → Nat → Int32} {L : Nat → Nat → Int64} {Rf : Nat → Nat → Option Nat} {T : zT} {l : List (Nat × Value)} {rest : List Value} : ∀ r1 σ1, k_wo n sl kd I L Rf T r1 σ1 → σ1.1 = n ∨ ((∀ q ∈ l, eb_okv n q.2) ∧ ∀ v ∈ rest, eb_okv n v) := fun _ _ h => Or.inl (by obtain ⟨_, I1, h, _⟩ := h; rw [h])
theorem k_weighAll {n : Nat} {sl : Nat × Nat} {kd : Nat → Nat × Nat} {I : Nat → Nat → Int32} {L : Nat → Nat → Int64} {Rf : Nat → Nat → Option Nat} (d : Nat) {T : zT} {H : Nat} (hC : zC n kd I L Rf T) (hO : zOk H T) (hH : H ≤ 1000000000) : zq mX10_weighAll (d + 20) [.ref 0] (n, sl, kd, I, L, Rf) (k_wo n sl kd I L Rf T) := by
  have hF := hC.F; have hc7 := hO.c
  have hK0 : zK n kd I L Rf I I L Rf T none none false := zK.start hC
  intro f B
  refine ez_meth pn_X.2.2.2.2.2.2.2.2.2.2.1 (Nat.le_of_ble_eq_true rfl) ?_
  show ez_P _ _ _ _ _ _ 0 [(0, .ref 0)] [] (n, sl, kd, I, L, Rf) _
  refine ez_iconst (v := 0) dX10_weighAll_0 (by decide) ?_
  refine ez_istore_n (l' := [(1, .int 0), (0, .ref 0)]) dX10_weighAll_1 rfl (by decide) rfl ?_
  refine ez_eq (l2 := [(1, .int (nI 0)), (0, .ref 0)]) (σ2 := (n, sl, kd, I, L, Rf)) rfl (by rw [nI_0]) rfl rfl ?_
  refine ez_for T.c (fun k (a : Nat → Nat → Int32) => ([(1, .int (nI k)), (0, .ref 0)], (n, sl, kd, a, L, Rf))) (fun k a => (∀ b, b < k → a 108 b = zwt T T.x b) ∧ ∀ c, c ≠ 108 → a c = I c) ?_ ?_ T.c 0 I (by omega) ⟨fun b hb => absurd hb (Nat.not_lt_zero b), fun _ _ => rfl⟩
  · rintro k Ia hk ⟨hl, hn⟩ ih
    have hKa : zK n kd I L Rf I Ia L Rf T none none false := ⟨hC.fr hF rfl (fun c hc => hn c (by omega)) rfl (fun _ _ => rfl), fun _ e => (nomatch e), fun _ e => (nomatch e), fun e => (nomatch e), fun c hc => by rw [hn c (by omega)]; exact ⟨rfl, rfl, rfl⟩, fun c hc => hn c (by unfold zgk at hc; omega)⟩
    show ez_P _ _ _ _ _ _ 2 [(1, .int (nI k)), (0, .ref 0)] [] (n, sl, kd, Ia, L, Rf) _
    refine ez_iload_n (i := 1) dX10_weighAll_2 rfl rfl ?_
    refine ez_aload_n (i := 0) dX10_weighAll_3 rfl rfl ?_
    refine ez_getR dX10_weighAll_4 flX10_33 (hF.lt (by decide)) (hF.kc (by decide) rfl) (hF.pt 21 rfl) ?_
    refine ez_getI dX10_weighAll_7 flX10_126 (hF.lt (by decide)) (hF.kc (by decide) rfl) ?_
    refine ez_topE (y := nI T.c) hKa.C.sh.cr ?_
    refine ez_icmp_ge (tgt := 37) dX10_weighAll_10 (by decide) (fun c1 => absurd c1 (nI_ge hk (by omega))) (fun c1 => ?_)
    refine ez_aload_n (i := 0) dX10_weighAll_13 rfl rfl ?_
    refine ez_getR dX10_weighAll_14 flX10_91 (hF.lt (by decide)) (hF.kc (by decide) rfl) (hF.pt 103 rfl) ?_
    refine ez_iload_n (i := 1) dX10_weighAll_17 rfl rfl ?_
    refine ez_aload_n (i := 0) dX10_weighAll_18 rfl rfl ?_
    refine ez_getR dX10_weighAll_19 flX10_26 (hF.lt (by decide)) (hF.kc (by decide) rfl) (hF.pt 4 rfl) ?_
    refine ez_aload_n (i := 0) dX10_weighAll_22 rfl rfl ?_
    refine ez_getR dX10_weighAll_23 flX10_33 (hF.lt (by decide)) (hF.kc (by decide) rfl) (hF.pt 21 rfl) ?_
    refine ez_iload_n (i := 1) dX10_weighAll_26 rfl rfl ?_
    refine ez_callV (M1 := mX6_weight) (rest := [.int (nI k), .ref 108]) dX10_weighAll_27 mlX10_174 mvX6_weight rfl (hF.lt (by decide)) (hF.kc (by decide) rfl) (Nat.le_of_ble_eq_true rfl) rfl (k_weight (T := T) (I := Ia) (L := L) (d + 16) hKa.C hO (j := 21) (by decide) hKa.C.sh hO.x (b := k) (by omega)) eb_rok ?_
    rintro _ _ ⟨rfl, rfl⟩
    show ez_P _ _ _ _ _ _ 30 [(1, .int (nI k)), (0, .ref 0)] (.int (zwt T T.x k) :: [.int (nI k), .ref 108]) _ _
    refine ez_isN (k := k) dX10_weighAll_30 (hF.lt (by decide)) (hF.lx (by decide)) (hF.ka (by decide) rfl) (by omega) (by decide) ?_
    refine ez_nmI (fun I2 hI2 => ?_)
    refine ez_iinc (v := (nI (k + 1))) (l' := [(1, .int ((nI (k + 1)))), (0, .ref 0)]) dX10_weighAll_31 rfl (nI_1 _) (by decide) rfl ?_
    refine ez_goto (tgt := 2) dX10_weighAll_34 (by decide) ?_
    refine ez_eq (l2 := [(1, .int (nI (k + 1))), (0, .ref 0)]) rfl rfl rfl rfl (ih I2 ⟨fun b hb => ?_, fun c hc => ?_⟩)
    · by_cases e : b = k
      · rw [hI2, e, z_set_at]
      · rw [hI2, z_set_nk e]; exact hl b (by omega)
    · rw [hI2, z_set_ne hc]; exact hn c hc
  · rintro Ia ⟨hl, hn⟩
    have hKa : zK n kd I L Rf I Ia L Rf T none none false := ⟨hC.fr hF rfl (fun c hc => hn c (by omega)) rfl (fun _ _ => rfl), fun _ e => (nomatch e), fun _ e => (nomatch e), fun e => (nomatch e), fun c hc => by rw [hn c (by omega)]; exact ⟨rfl, rfl, rfl⟩, fun c hc => hn c (by unfold zgk at hc; omega)⟩
    show ez_P _ _ _ _ _ _ 2 [(1, .int (nI T.c)), (0, .ref 0)] [] (n, sl, kd, Ia, L, Rf) _
    refine ez_iload_n (i := 1) dX10_weighAll_2 rfl rfl ?_
    refine ez_aload_n (i := 0) dX10_weighAll_3 rfl rfl ?_
    refine ez_getR dX10_weighAll_4 flX10_33 (hF.lt (by decide)) (hF.kc (by decide) rfl) (hF.pt 21 rfl) ?_
    refine ez_getI dX10_weighAll_7 flX10_126 (hF.lt (by decide)) (hF.kc (by decide) rfl) ?_
    refine ez_topE (y := nI T.c) hKa.C.sh.cr ?_
    refine ez_icmp_ge (tgt := 37) dX10_weighAll_10 (by decide) (fun c3 => ?_) (fun c3 => absurd (nI_le (Nat.le_refl _) (by omega)) c3)
    refine ez_vret dX10_weighAll_37 rfl ?_
    exact ⟨rfl, Ia, rfl, hl, hn⟩
theorem c_later_ok {n : Nat} {sl : Nat × Nat} {kd : Nat → Nat × Nat} {I : Nat → Nat → Int32} {L : Nat → Nat → Int64} {Rf : Nat → Nat → Option Nat} (d : Nat) {T : zT} {H : Nat} (hC : zC n kd I L Rf T) (hO : zOk H T) (hH : H ≤ 1000000000) {n0 : Nat} (hn : n0 ≤ 99) (f : Nat) (B : Nat → Int32) : ez_Q (f + 100) B f (fun _ => True) mX10_later (d + 60) [.ref 0, .int (nI n0)] (n, sl, kd, I, L, Rf) (zpC n sl kd I L Rf (some (.int (s_later T (nI n0)).1)) (s_later T (nI n0)).2) := by
  have hF := hC.F; have hc7 := hO.c
  have hK0 : zK n kd I L Rf I I L Rf T none none false := zK.start hC
  have hsp : s_later T (nI n0) = (100 + zhk T T.x n0 22, T.w_rw [(zhk T T.x n0 23 - T.x 23).toInt64, (zhk T T.x n0 21).toInt64]) := (by unfold s_later; rw [if_pos ⟨(z_n9 (N := 99) hn (by decide)).1, (z_n9 (N := 99) hn (by decide)).2⟩, nI_clamp (by omega)])
  rw [hsp]
  refine ez_meth pn_X.2.2.2.2.2.2.2.2.2.2.1 (Nat.le_of_ble_eq_true rfl) ?_
  show ez_P _ _ _ _ _ _ 0 [(0, .ref 0), (1, .int (nI n0))] [] (n, sl, kd, I, L, Rf) _
  refine ez_iload_n (i := 1) dX10_later_0 rfl rfl ?_
  refine ez_iconst (v := 0) dX10_later_1 (by decide) ?_
  refine ez_bipush (v := 99) dX10_later_2 (by decide) ?_
  refine ez_callS (M1 := mX10_within) (rest := []) dX10_later_4 mlX10_158 msX10_within rfl (Nat.le_of_ble_eq_true rfl) rfl (zq_b1 (z_n9 (N := 99) hn (by decide)) (zq_b (q_X10_within (d + 59) (nI n0) 0 99) (n, sl, kd, I, L, Rf))) eb_rok ?_
  rintro _ _ ⟨rfl, rfl⟩
  show ez_P _ _ _ _ _ _ 7 [(0, .ref 0), (1, .int (nI n0))] (.int 1 :: []) _ _
  refine ez_if_ne (tgt := 12) dX10_later_7 (by decide) (fun c1 => ?_) (fun c1 => absurd (by decide) c1)
  refine ez_aload_n (i := 0) dX10_later_12 rfl rfl ?_
  refine ez_callVm (M1 := mX10_lookAhead) (rest := []) dX10_later_13 mlX10_282 mvX10_lookAhead rfl (hF.lt (by decide)) (hF.kc (by decide) rfl) (Nat.le_of_ble_eq_true rfl) rfl (k_look (T := T) (I := I) (L := L) (d + 39) hK0.C hO (f + 99) _) (eb_vok rfl) ?_
  rintro _ _ _ rfl ⟨rfl, rfl⟩
  refine ez_nmI (fun I2 hI2 => ?_)
  show ez_P _ _ _ _ _ _ 16 [(0, .ref 0), (1, .int (nI n0))] [] (n, sl, kd, I2, L, Rf) _
  have hK3 : zK n kd I L Rf I I2 L Rf T (some T.x) none false := by rw [hI2]; exact hK0.cpg
  refine ez_aload_n (i := 0) dX10_later_16 rfl rfl ?_
  refine ez_getR dX10_later_17 flX10_26 (hF.lt (by decide)) (hF.kc (by decide) rfl) (hF.pt 4 rfl) ?_
  refine ez_aload_n (i := 0) dX10_later_20 rfl rfl ?_
  refine ez_getR dX10_later_21 flX10_37 (hF.lt (by decide)) (hF.kc (by decide) rfl) (hF.pt 25 rfl) ?_
  refine ez_iload_n (i := 1) dX10_later_24 rfl rfl ?_
  refine ez_callVm (M1 := mX6_letHoursGo) (rest := []) dX10_later_25 mlX10_195 mvX6_letHoursGo rfl (hF.lt (by decide)) (hF.kc (by decide) rfl) (Nat.le_of_ble_eq_true rfl) rfl (k_let (T := T) (I := I2) (L := L) (d + 54) hK3.C hO (j := 25) (by decide) (hK3.gs _ rfl) hO.x (by omega) (N := n0) (by omega) (y := T.x) (fun _ _ => rfl) (f + 99)) k_hp_ok ?_
  rintro _ _ _ rfl ⟨rfl, I4, rfl, hs5, hn6⟩
  show ez_P _ _ _ _ _ _ 28 [(0, .ref 0), (1, .int (nI n0))] (.int (zhc T T.x n0) :: []) (n, sl, kd, I4, L, Rf) _
  have hK7 : zK n kd I L Rf I I4 L Rf T (some (zhk T T.x n0)) none false := by exact hK3.gu hs5 (fun c hc => hn6 c (by omega))
  refine ez_pop dX10_later_28 rfl ?_
  refine ez_aload_n (i := 0) dX10_later_29 rfl rfl ?_
  refine ez_getR dX10_later_30 flX10_19 (hF.lt (by decide)) (hF.kc (by decide) rfl) (hF.pt 3 rfl) ?_
  refine ez_aload_n (i := 0) dX10_later_33 rfl rfl ?_
  refine ez_getR dX10_later_34 flX10_37 (hF.lt (by decide)) (hF.kc (by decide) rfl) (hF.pt 25 rfl) ?_
  refine ez_getI dX10_later_37 flX10_201 (hF.lt (by decide)) (hF.kc (by decide) rfl) ?_
  refine ez_topE (y := (zhk T T.x n0) 23) (hK7.gs _ rfl).lg ?_
  refine ez_aload_n (i := 0) dX10_later_40 rfl rfl ?_
  refine ez_getR dX10_later_41 flX10_33 (hF.lt (by decide)) (hF.kc (by decide) rfl) (hF.pt 21 rfl) ?_
  refine ez_getI dX10_later_44 flX10_201 (hF.lt (by decide)) (hF.kc (by decide) rfl) ?_
  refine ez_topE (y := T.x 23) hK7.C.sh.lg ?_
  refine ez_isub dX10_later_47 ?_
  refine ez_aload_n (i := 0) dX10_later_48 rfl rfl ?_
  refine ez_getR dX10_later_49 flX10_37 (hF.lt (by decide)) (hF.kc (by decide) rfl) (hF.pt 25 rfl) ?_
  refine ez_getI dX10_later_52 flX10_272 (hF.lt (by decide)) (hF.kc (by decide) rfl) ?_
  refine ez_topE (y := (zhk T T.x n0) 21) (hK7.gs _ rfl).s ?_
  refine ez_callV (M1 := mX4_tell_) (rest := []) dX10_later_55 mlX10_204 mvX4_tell_ rfl (hF.lt (by decide)) (hF.kc (by decide) rfl) (Nat.le_of_ble_eq_true rfl) rfl (y_X4_tell_ (I := I4) (L := L) (d + 58) hF (((zhk T T.x n0) 23) - (T.x 23)) ((zhk T T.x n0) 21)) z_tok ?_
  rintro _ _ ⟨rfl, I8, L9, rfl, hr10, ho11⟩
  show ez_P _ _ _ _ _ _ 58 [(0, .ref 0), (1, .int (nI n0))] [] (n, sl, kd, I8, L9, Rf) _
  have hK12 : zK n kd I L Rf I I8 L9 Rf (T.w_rw [(((zhk T T.x n0) 23) - (T.x 23)).toInt64, ((zhk T T.x n0) 21).toInt64]) (some (zhk T T.x n0)) none false := by exact hK7.tell hr10 ho11
  refine ez_bipush (v := 100) dX10_later_58 (by decide) ?_
  refine ez_aload_n (i := 0) dX10_later_60 rfl rfl ?_
  refine ez_getR dX10_later_61 flX10_37 (hF.lt (by decide)) (hF.kc (by decide) rfl) (hF.pt 25 rfl) ?_
  refine ez_getI dX10_later_64 flX10_208 (hF.lt (by decide)) (hF.kc (by decide) rfl) ?_
  refine ez_topE (y := (zhk T T.x n0) 22) (hK12.gs _ rfl).l ?_
  refine ez_iadd dX10_later_67 ?_
  refine ez_iret dX10_later_68 rfl rfl ?_
  exact hK12.end
theorem c_later_no {n : Nat} {sl : Nat × Nat} {kd : Nat → Nat × Nat} {I : Nat → Nat → Int32} {L : Nat → Nat → Int64} {Rf : Nat → Nat → Option Nat} (d : Nat) {T : zT} {H : Nat} (hC : zC n kd I L Rf T) (hO : zOk H T) (hH : H ≤ 1000000000) {v : Int32} (hn : ¬ (0 ≤ v ∧ v ≤ 99)) (f : Nat) (B : Nat → Int32) : ez_Q (f + 100) B f (fun _ => True) mX10_later (d + 60) [.ref 0, .int v] (n, sl, kd, I, L, Rf) (zpC n sl kd I L Rf (some (.int (s_later T v).1)) (s_later T v).2) := by
  have hF := hC.F; have hc7 := hO.c
  have hK0 : zK n kd I L Rf I I L Rf T none none false := zK.start hC
  have hsp : s_later T v = ((-1), T) := (by unfold s_later; rw [if_neg hn])
  rw [hsp]
  refine ez_meth pn_X.2.2.2.2.2.2.2.2.2.2.1 (Nat.le_of_ble_eq_true rfl) ?_
  show ez_P _ _ _ _ _ _ 0 [(0, .ref 0), (1, .int v)] [] (n, sl, kd, I, L, Rf) _
  refine ez_iload_n (i := 1) dX10_later_0 rfl rfl ?_
  refine ez_iconst (v := 0) dX10_later_1 (by decide) ?_
  refine ez_bipush (v := 99) dX10_later_2 (by decide) ?_
  refine ez_callS (M1 := mX10_within) (rest := []) dX10_later_4 mlX10_158 msX10_within rfl (Nat.le_of_ble_eq_true rfl) rfl (zq_b0 hn (zq_b (q_X10_within (d + 59) v 0 99) (n, sl, kd, I, L, Rf))) eb_rok ?_
  rintro _ _ ⟨rfl, rfl⟩
  show ez_P _ _ _ _ _ _ 7 [(0, .ref 0), (1, .int v)] (.int 0 :: []) _ _
  refine ez_if_ne (tgt := 12) dX10_later_7 (by decide) (fun c1 => absurd c1 (by decide)) (fun c1 => ?_)
  refine ez_iconst (v := (-1)) dX10_later_10 (by decide) ?_
  refine ez_iret dX10_later_11 rfl rfl ?_
  exact hK0.end
theorem c_later {n : Nat} {sl : Nat × Nat} {kd : Nat → Nat × Nat} {I : Nat → Nat → Int32} {L : Nat → Nat → Int64} {Rf : Nat → Nat → Option Nat} (d : Nat) {T : zT} {H : Nat} (hC : zC n kd I L Rf T) (hO : zOk H T) (hH : H ≤ 1000000000) (v : Int32) (f : Nat) (B : Nat → Int32) : ez_Q (f + 100) B f (fun _ => True) mX10_later (d + 60) [.ref 0, .int v] (n, sl, kd, I, L, Rf) (zpC n sl kd I L Rf (some (.int (s_later T v).1)) (s_later T v).2) := by
  by_cases hn : 0 ≤ v ∧ v ≤ 99
  · obtain ⟨n0, _, hn0, rfl⟩ := z_pk1 (lo := 0) (N := 99) hn (by decide) (by decide)
    exact c_later_ok d hC hO hH hn0 f B
  · exact c_later_no d hC hO hH hn f B
theorem zhc_1 {T : zT} {x : Nat → Int32} {k : Nat} (h : zhc T x k = 0) : zhc T x (k + 1) = zhc T (zhk T x k) 1 := by
  show zhc T x k + _ = 0 + _
  rw [h]; rfl
theorem zhc_p {T : zT} {x : Nat → Int32} : zhc T x 1 ≤ 0 ↔ zhc T x 1 = 0 := by
  show 0 + zho T (zhw T x) x ≤ 0 ↔ 0 + zho T (zhw T x) x = 0
  unfold zho; split <;> decide
theorem c_over {n : Nat} {sl : Nat × Nat} {kd : Nat → Nat × Nat} {I : Nat → Nat → Int32} {L : Nat → Nat → Int64} {Rf : Nat → Nat → Option Nat} (d : Nat) {T : zT} {H : Nat} (hC : zC n kd I L Rf T) (hO : zOk H T) (hH : H ≤ 1000000000) (f : Nat) (B : Nat → Int32) : ez_Q (f + 100) B f (fun _ => True) mX10_over (d + 60) [.ref 0] (n, sl, kd, I, L, Rf) (zpC n sl kd I L Rf (some (.int (s_over T).1)) (s_over T).2) := by
  have hF := hC.F; have hc7 := hO.c
  have hK0 : zK n kd I L Rf I I L Rf T none none false := zK.start hC
  refine ez_meth pn_X.2.2.2.2.2.2.2.2.2.2.1 (Nat.le_of_ble_eq_true rfl) ?_
  show ez_P _ _ _ _ _ _ 0 [(0, .ref 0)] [] (n, sl, kd, I, L, Rf) _
  refine ez_aload_n (i := 0) dX10_over_0 rfl rfl ?_
  refine ez_callVm (M1 := mX10_lookAhead) (rest := []) dX10_over_1 mlX10_282 mvX10_lookAhead rfl (hF.lt (by decide)) (hF.kc (by decide) rfl) (Nat.le_of_ble_eq_true rfl) rfl (k_look (T := T) (I := I) (L := L) (d + 39) hK0.C hO (f + 99) _) (eb_vok rfl) ?_
  rintro _ _ _ rfl ⟨rfl, rfl⟩
  refine ez_nmI (fun I1 hI1 => ?_)
  show ez_P _ _ _ _ _ _ 4 [(0, .ref 0)] [] (n, sl, kd, I1, L, Rf) _
  have hK2 : zK n kd I L Rf I I1 L Rf T (some T.x) none false := by rw [hI1]; exact hK0.cpg
  refine ez_iconst (v := 1) dX10_over_4 (by decide) ?_
  refine ez_istore_n (l' := [(1, .int 1), (0, .ref 0)]) dX10_over_5 rfl (by decide) rfl ?_
  refine ez_eq (l2 := [(1, .int (nI (0 + 1))), (0, .ref 0)]) (σ2 := (n, sl, kd, I1, L, Rf)) rfl rfl rfl rfl ?_
  refine ez_for 99 (fun k (a : (Nat → Nat → Int32) × (Nat → Nat → Int64)) => ([(1, .int (nI (k + 1))), (0, .ref 0)], (n, sl, kd, a.1, a.2, Rf))) (fun k a => zK n kd I L Rf I a.1 a.2 Rf T (some (zhk T T.x k)) none false ∧ zhc T T.x k = 0 ∧ zfd (p_over T) (99 - k) k = zfd (p_over T) 99 0) ?_ ?_ 99 0 (I1, L) (by omega) ⟨hK2, ⟨rfl, rfl⟩⟩
  · rintro k ⟨Ia, La⟩ hk ⟨hKl, hex⟩ ih
    have hKl : zK n kd I L Rf I Ia La Rf T (some (zhk T T.x k)) none false := hKl
    have hex : zhc T T.x k = 0 ∧ zfd (p_over T) (99 - k) k = zfd (p_over T) 99 0 := hex
    show ez_P _ _ _ _ _ _ 6 [(1, .int (nI (k + 1))), (0, .ref 0)] [] (n, sl, kd, Ia, La, Rf) _
    refine ez_iload_n (i := 1) dX10_over_6 rfl rfl ?_
    refine ez_bipush (v := 99) dX10_over_7 (by decide) ?_
    refine ez_icmp_gt (tgt := 52) dX10_over_9 (by decide) (fun c3 => absurd c3 (Int32.not_lt.mpr (nI_le (b := 99) (by omega) (by decide)))) (fun c3 => ?_)
    refine ez_aload_n (i := 0) dX10_over_12 rfl rfl ?_
    refine ez_getR dX10_over_13 flX10_26 (hF.lt (by decide)) (hF.kc (by decide) rfl) (hF.pt 4 rfl) ?_
    refine ez_aload_n (i := 0) dX10_over_16 rfl rfl ?_
    refine ez_getR dX10_over_17 flX10_37 (hF.lt (by decide)) (hF.kc (by decide) rfl) (hF.pt 25 rfl) ?_
    refine ez_iconst (v := 1) dX10_over_20 (by decide) ?_
    refine ez_callVm (M1 := mX6_letHoursGo) (rest := []) dX10_over_21 mlX10_195 mvX6_letHoursGo rfl (hF.lt (by decide)) (hF.kc (by decide) rfl) (Nat.le_of_ble_eq_true rfl) rfl (k_let (T := T) (I := Ia) (L := La) (d + 54) hKl.C hO (j := 25) (by decide) (hKl.gs _ rfl) (zhk_xr hO.x hO.wm.1 hO.wd hO.c k) (by omega) (N := 1) (by omega) (y := T.x) (zhk_crew k) (f + 99)) k_hp_ok ?_
    rintro _ _ _ rfl ⟨rfl, I4, rfl, hs5, hn6⟩
    show ez_P _ _ _ _ _ _ 24 [(1, .int (nI (k + 1))), (0, .ref 0)] (.int (zhc T (zhk T T.x k) 1) :: []) (n, sl, kd, I4, La, Rf) _
    have hK7 : zK n kd I L Rf I I4 La Rf T (some (zhk T T.x (k + 1))) none false := by exact hKl.gu hs5 (fun c hc => hn6 c (by omega))
    refine ez_if_le (tgt := 46) dX10_over_24 (by decide) (fun c8 => ?_) (fun c8 => ?_)
    · skip
      refine ez_iinc (v := (nI (k + 2))) (l' := [(1, .int ((nI (k + 2)))), (0, .ref 0)]) dX10_over_46 rfl (nI_1 _) (by decide) rfl ?_
      refine ez_goto (tgt := 6) dX10_over_49 (by decide) ?_
      exact ez_eq (l2 := [(1, .int (nI (k + 1 + 1))), (0, .ref 0)]) rfl rfl rfl rfl (ih (I4, La) ⟨hK7, ⟨(zhc_1 hex.1).trans (zhc_p.mp c8), zfd_step hex.2 hk (by unfold p_over; rw [zhc_1 hex.1]; simp only [decide_eq_true_eq]; exact fun g => g (zhc_p.mp c8))⟩⟩)
    · skip
      refine ez_aload_n (i := 0) dX10_over_27 rfl rfl ?_
      refine ez_getR dX10_over_28 flX10_19 (hF.lt (by decide)) (hF.kc (by decide) rfl) (hF.pt 3 rfl) ?_
      refine ez_bipush (v := 100) dX10_over_31 (by decide) ?_
      refine ez_aload_n (i := 0) dX10_over_33 rfl rfl ?_
      refine ez_getR dX10_over_34 flX10_37 (hF.lt (by decide)) (hF.kc (by decide) rfl) (hF.pt 25 rfl) ?_
      refine ez_getI dX10_over_37 flX10_208 (hF.lt (by decide)) (hF.kc (by decide) rfl) ?_
      refine ez_topE (y := (zhk T T.x (k + 1)) 22) (hK7.gs _ rfl).l ?_
      refine ez_iadd dX10_over_40 ?_
      refine ez_callV (M1 := mX4_tell) (rest := []) dX10_over_41 mlX10_285 mvX4_tell rfl (hF.lt (by decide)) (hF.kc (by decide) rfl) (Nat.le_of_ble_eq_true rfl) rfl (y_X4_tell (I := I4) (L := La) (d + 58) hF (100 + ((zhk T T.x (k + 1)) 22))) z_tok ?_
      rintro _ _ ⟨rfl, I9, L10, rfl, hr11, ho12⟩
      show ez_P _ _ _ _ _ _ 44 [(1, .int (nI (k + 1))), (0, .ref 0)] [] (n, sl, kd, I9, L10, Rf) _
      have hK13 : zK n kd I L Rf I I9 L10 Rf (T.w_rw [(100 + ((zhk T T.x (k + 1)) 22)).toInt64]) (some (zhk T T.x (k + 1))) none false := by exact hK7.tell hr11 ho12
      refine ez_iload_n (i := 1) dX10_over_44 rfl rfl ?_
      refine ez_iret dX10_over_45 rfl rfl ?_
      rw [show s_over T = (nI (k + 1), T.w_rw [(100 + zhk T T.x (k + 1) 22).toInt64]) from by unfold s_over; rw [zfd_hit hex.2 hk (by unfold p_over; rw [zhc_1 hex.1]; simp only [decide_eq_true_eq]; exact fun g => c8 (zhc_p.mpr g))]]
      exact hK13.end
  · rintro ⟨Ia, La⟩ ⟨hKl, hex⟩
    have hKl : zK n kd I L Rf I Ia La Rf T (some (zhk T T.x 99)) none false := hKl
    have hex : zhc T T.x 99 = 0 ∧ zfd (p_over T) (99 - 99) 99 = zfd (p_over T) 99 0 := hex
    show ez_P _ _ _ _ _ _ 6 [(1, .int (nI (99 + 1))), (0, .ref 0)] [] (n, sl, kd, Ia, La, Rf) _
    refine ez_iload_n (i := 1) dX10_over_6 rfl rfl ?_
    refine ez_bipush (v := 99) dX10_over_7 (by decide) ?_
    refine ez_icmp_gt (tgt := 52) dX10_over_9 (by decide) (fun c14 => ?_) (fun c14 => absurd (by decide) c14)
    refine ez_bipush (v := (-2)) dX10_over_52 (by decide) ?_
    refine ez_iret dX10_over_54 rfl rfl ?_
    rw [show s_over T = (-2, T) from by unfold s_over; rw [zfd_end hex.2]]
    exact hKl.end
theorem c_makes_ok {n : Nat} {sl : Nat × Nat} {kd : Nat → Nat × Nat} {I : Nat → Nat → Int32} {L : Nat → Nat → Int64} {Rf : Nat → Nat → Option Nat} (d : Nat) {T : zT} {H : Nat} (hC : zC n kd I L Rf T) (hO : zOk H T) (hH : H ≤ 1000000000) {v : Int32} (hn : 0 ≤ v ∧ v ≤ 9999) (f : Nat) (B : Nat → Int32) : ez_Q (f + 100) B f (fun _ => True) mX10_makes (d + 60) [.ref 0, .int v] (n, sl, kd, I, L, Rf) (zpC n sl kd I L Rf (some (.int (s_makes T v).1)) (s_makes T v).2) := by
  have hF := hC.F; have hc7 := hO.c
  have hK0 : zK n kd I L Rf I I L Rf T none none false := zK.start hC
  refine ez_meth pn_X.2.2.2.2.2.2.2.2.2.2.1 (Nat.le_of_ble_eq_true rfl) ?_
  show ez_P _ _ _ _ _ _ 0 [(0, .ref 0), (1, .int v)] [] (n, sl, kd, I, L, Rf) _
  refine ez_iload_n (i := 1) dX10_makes_0 rfl rfl ?_
  refine ez_iconst (v := 0) dX10_makes_1 (by decide) ?_
  refine ez_sipush (v := 9999) dX10_makes_2 (by decide) ?_
  refine ez_callS (M1 := mX10_within) (rest := []) dX10_makes_5 mlX10_158 msX10_within rfl (Nat.le_of_ble_eq_true rfl) rfl (zq_b1 hn (zq_b (q_X10_within (d + 59) v 0 9999) (n, sl, kd, I, L, Rf))) eb_rok ?_
  rintro _ _ ⟨rfl, rfl⟩
  show ez_P _ _ _ _ _ _ 8 [(0, .ref 0), (1, .int v)] (.int 1 :: []) _ _
  refine ez_if_ne (tgt := 13) dX10_makes_8 (by decide) (fun c1 => ?_) (fun c1 => absurd (by decide) c1)
  refine ez_aload_n (i := 0) dX10_makes_13 rfl rfl ?_
  refine ez_callVm (M1 := mX10_lookAhead) (rest := []) dX10_makes_14 mlX10_282 mvX10_lookAhead rfl (hF.lt (by decide)) (hF.kc (by decide) rfl) (Nat.le_of_ble_eq_true rfl) rfl (k_look (T := T) (I := I) (L := L) (d + 39) hK0.C hO (f + 99) _) (eb_vok rfl) ?_
  rintro _ _ _ rfl ⟨rfl, rfl⟩
  refine ez_nmI (fun I2 hI2 => ?_)
  show ez_P _ _ _ _ _ _ 17 [(0, .ref 0), (1, .int v)] [] (n, sl, kd, I2, L, Rf) _
  have hK3 : zK n kd I L Rf I I2 L Rf T (some T.x) none false := by rw [hI2]; exact hK0.cpg
  refine ez_iconst (v := 0) dX10_makes_17 (by decide) ?_
  refine ez_istore_n (l' := [(2, .int 0), (0, .ref 0), (1, .int v)]) dX10_makes_18 rfl (by decide) rfl ?_
  refine ez_eq (l2 := [(2, .int (nI 0)), (0, .ref 0), (1, .int v)]) (σ2 := (n, sl, kd, I2, L, Rf)) rfl rfl rfl rfl ?_
  refine ez_for 100 (fun k (a : (Nat → Nat → Int32) × (Nat → Nat → Int64)) => ([(2, .int (nI k)), (0, .ref 0), (1, .int v)], (n, sl, kd, a.1, a.2, Rf))) (fun k a => zK n kd I L Rf I a.1 a.2 Rf T (some (zhk T T.x k)) none false ∧ zfd (p_makes T v) (100 - k) k = zfd (p_makes T v) 100 0) ?_ ?_ 100 0 (I2, L) (by omega) ⟨hK3, rfl⟩
  · rintro k ⟨Ia, La⟩ hk ⟨hKl, hex⟩ ih
    have hKl : zK n kd I L Rf I Ia La Rf T (some (zhk T T.x k)) none false := hKl
    have hex : zfd (p_makes T v) (100 - k) k = zfd (p_makes T v) 100 0 := hex
    show ez_P _ _ _ _ _ _ 19 [(2, .int (nI k)), (0, .ref 0), (1, .int v)] [] (n, sl, kd, Ia, La, Rf) _
    refine ez_iload_n (i := 2) dX10_makes_19 rfl rfl ?_
    refine ez_bipush (v := 99) dX10_makes_20 (by decide) ?_
    refine ez_icmp_gt (tgt := 78) dX10_makes_22 (by decide) (fun c4 => absurd c4 (Int32.not_lt.mpr (nI_le (b := 99) (by omega) (by decide)))) (fun c4 => ?_)
    refine ez_aload_n (i := 0) dX10_makes_25 rfl rfl ?_
    refine ez_getR dX10_makes_26 flX10_37 (hF.lt (by decide)) (hF.kc (by decide) rfl) (hF.pt 25 rfl) ?_
    refine ez_getI dX10_makes_29 flX10_201 (hF.lt (by decide)) (hF.kc (by decide) rfl) ?_
    refine ez_topE (y := (zhk T T.x k) 23) (hKl.gs _ rfl).lg ?_
    refine ez_iload_n (i := 1) dX10_makes_32 rfl rfl ?_
    refine ez_icmp_lt (tgt := 59) dX10_makes_33 (by decide) (fun c5 => ?_) (fun c5 => ?_)
    · skip
      refine ez_aload_n (i := 0) dX10_makes_59 rfl rfl ?_
      refine ez_getR dX10_makes_60 flX10_26 (hF.lt (by decide)) (hF.kc (by decide) rfl) (hF.pt 4 rfl) ?_
      refine ez_aload_n (i := 0) dX10_makes_63 rfl rfl ?_
      refine ez_getR dX10_makes_64 flX10_37 (hF.lt (by decide)) (hF.kc (by decide) rfl) (hF.pt 25 rfl) ?_
      refine ez_iconst (v := 1) dX10_makes_67 (by decide) ?_
      refine ez_callVm (M1 := mX6_letHoursGo) (rest := []) dX10_makes_68 mlX10_195 mvX6_letHoursGo rfl (hF.lt (by decide)) (hF.kc (by decide) rfl) (Nat.le_of_ble_eq_true rfl) rfl (k_let (T := T) (I := Ia) (L := La) (d + 54) hKl.C hO (j := 25) (by decide) (hKl.gs _ rfl) (zhk_xr hO.x hO.wm.1 hO.wd hO.c k) (by omega) (N := 1) (by omega) (y := T.x) (zhk_crew k) (f + 99)) k_hp_ok ?_
      rintro _ _ _ rfl ⟨rfl, I6, rfl, hs7, hn8⟩
      show ez_P _ _ _ _ _ _ 71 [(2, .int (nI k)), (0, .ref 0), (1, .int v)] (.int (zhc T (zhk T T.x k) 1) :: []) (n, sl, kd, I6, La, Rf) _
      have hK9 : zK n kd I L Rf I I6 La Rf T (some (zhk T T.x (k + 1))) none false := by exact hKl.gu hs7 (fun c hc => hn8 c (by omega))
      refine ez_pop dX10_makes_71 rfl ?_
      refine ez_iinc (v := (nI (k + 1))) (l' := [(2, .int ((nI (k + 1)))), (0, .ref 0), (1, .int v)]) dX10_makes_72 rfl (nI_1 _) (by decide) rfl ?_
      refine ez_goto (tgt := 19) dX10_makes_75 (by decide) ?_
      exact ez_eq (l2 := [(2, .int (nI (k + 1))), (0, .ref 0), (1, .int v)]) rfl rfl rfl rfl (ih (I6, La) ⟨hK9, zfd_step hex hk (by unfold p_makes; simp only [decide_eq_true_eq]; exact fun g => g c5)⟩)
    · skip
      refine ez_aload_n (i := 0) dX10_makes_36 rfl rfl ?_
      refine ez_getR dX10_makes_37 flX10_19 (hF.lt (by decide)) (hF.kc (by decide) rfl) (hF.pt 3 rfl) ?_
      refine ez_aload_n (i := 0) dX10_makes_40 rfl rfl ?_
      refine ez_getR dX10_makes_41 flX10_37 (hF.lt (by decide)) (hF.kc (by decide) rfl) (hF.pt 25 rfl) ?_
      refine ez_getI dX10_makes_44 flX10_201 (hF.lt (by decide)) (hF.kc (by decide) rfl) ?_
      refine ez_topE (y := (zhk T T.x k) 23) (hKl.gs _ rfl).lg ?_
      refine ez_aload_n (i := 0) dX10_makes_47 rfl rfl ?_
      refine ez_getR dX10_makes_48 flX10_37 (hF.lt (by decide)) (hF.kc (by decide) rfl) (hF.pt 25 rfl) ?_
      refine ez_getI dX10_makes_51 flX10_272 (hF.lt (by decide)) (hF.kc (by decide) rfl) ?_
      refine ez_topE (y := (zhk T T.x k) 21) (hKl.gs _ rfl).s ?_
      refine ez_callV (M1 := mX4_tell_) (rest := []) dX10_makes_54 mlX10_204 mvX4_tell_ rfl (hF.lt (by decide)) (hF.kc (by decide) rfl) (Nat.le_of_ble_eq_true rfl) rfl (y_X4_tell_ (I := Ia) (L := La) (d + 58) hF ((zhk T T.x k) 23) ((zhk T T.x k) 21)) z_tok ?_
      rintro _ _ ⟨rfl, I10, L11, rfl, hr12, ho13⟩
      show ez_P _ _ _ _ _ _ 57 [(2, .int (nI k)), (0, .ref 0), (1, .int v)] [] (n, sl, kd, I10, L11, Rf) _
      have hK14 : zK n kd I L Rf I I10 L11 Rf (T.w_rw [((zhk T T.x k) 23).toInt64, ((zhk T T.x k) 21).toInt64]) (some (zhk T T.x k)) none false := by exact hKl.tell hr12 ho13
      refine ez_iload_n (i := 2) dX10_makes_57 rfl rfl ?_
      refine ez_iret dX10_makes_58 rfl rfl ?_
      rw [show s_makes T v = (nI k, T.w_rw [(zhk T T.x k 23).toInt64, (zhk T T.x k 21).toInt64]) from by unfold s_makes; rw [if_pos hn, zfd_hit hex hk (by unfold p_makes; simp only [decide_eq_true_eq]; exact c5)]]
      exact hK14.end
  · rintro ⟨Ia, La⟩ ⟨hKl, hex⟩
    have hKl : zK n kd I L Rf I Ia La Rf T (some (zhk T T.x 100)) none false := hKl
    have hex : zfd (p_makes T v) (100 - 100) 100 = zfd (p_makes T v) 100 0 := hex
    show ez_P _ _ _ _ _ _ 19 [(2, .int (nI 100)), (0, .ref 0), (1, .int v)] [] (n, sl, kd, Ia, La, Rf) _
    refine ez_iload_n (i := 2) dX10_makes_19 rfl rfl ?_
    refine ez_bipush (v := 99) dX10_makes_20 (by decide) ?_
    refine ez_icmp_gt (tgt := 78) dX10_makes_22 (by decide) (fun c15 => ?_) (fun c15 => absurd (by decide) c15)
    refine ez_bipush (v := (-2)) dX10_makes_78 (by decide) ?_
    refine ez_iret dX10_makes_80 rfl rfl ?_
    rw [show s_makes T v = (-2, T) from by unfold s_makes; rw [if_pos hn, zfd_end hex]]
    exact hKl.end
theorem c_makes_no {n : Nat} {sl : Nat × Nat} {kd : Nat → Nat × Nat} {I : Nat → Nat → Int32} {L : Nat → Nat → Int64} {Rf : Nat → Nat → Option Nat} (d : Nat) {T : zT} {H : Nat} (hC : zC n kd I L Rf T) (hO : zOk H T) (hH : H ≤ 1000000000) {v : Int32} (hn : ¬ (0 ≤ v ∧ v ≤ 9999)) (f : Nat) (B : Nat → Int32) : ez_Q (f + 100) B f (fun _ => True) mX10_makes (d + 60) [.ref 0, .int v] (n, sl, kd, I, L, Rf) (zpC n sl kd I L Rf (some (.int (s_makes T v).1)) (s_makes T v).2) := by
  have hF := hC.F; have hc7 := hO.c
  have hK0 : zK n kd I L Rf I I L Rf T none none false := zK.start hC
  have hsp : s_makes T v = ((-1), T) := (by unfold s_makes; rw [if_neg hn])
  rw [hsp]
  refine ez_meth pn_X.2.2.2.2.2.2.2.2.2.2.1 (Nat.le_of_ble_eq_true rfl) ?_
  show ez_P _ _ _ _ _ _ 0 [(0, .ref 0), (1, .int v)] [] (n, sl, kd, I, L, Rf) _
  refine ez_iload_n (i := 1) dX10_makes_0 rfl rfl ?_
  refine ez_iconst (v := 0) dX10_makes_1 (by decide) ?_
  refine ez_sipush (v := 9999) dX10_makes_2 (by decide) ?_
  refine ez_callS (M1 := mX10_within) (rest := []) dX10_makes_5 mlX10_158 msX10_within rfl (Nat.le_of_ble_eq_true rfl) rfl (zq_b0 hn (zq_b (q_X10_within (d + 59) v 0 9999) (n, sl, kd, I, L, Rf))) eb_rok ?_
  rintro _ _ ⟨rfl, rfl⟩
  show ez_P _ _ _ _ _ _ 8 [(0, .ref 0), (1, .int v)] (.int 0 :: []) _ _
  refine ez_if_ne (tgt := 13) dX10_makes_8 (by decide) (fun c1 => absurd c1 (by decide)) (fun c1 => ?_)
  refine ez_iconst (v := (-1)) dX10_makes_11 (by decide) ?_
  refine ez_iret dX10_makes_12 rfl rfl ?_
  exact hK0.end
theorem c_makes {n : Nat} {sl : Nat × Nat} {kd : Nat → Nat × Nat} {I : Nat → Nat → Int32} {L : Nat → Nat → Int64} {Rf : Nat → Nat → Option Nat} (d : Nat) {T : zT} {H : Nat} (hC : zC n kd I L Rf T) (hO : zOk H T) (hH : H ≤ 1000000000) (v : Int32) (f : Nat) (B : Nat → Int32) : ez_Q (f + 100) B f (fun _ => True) mX10_makes (d + 60) [.ref 0, .int v] (n, sl, kd, I, L, Rf) (zpC n sl kd I L Rf (some (.int (s_makes T v).1)) (s_makes T v).2) := by
  by_cases hn : 0 ≤ v ∧ v ≤ 9999
  · exact c_makes_ok d hC hO hH hn f B
  · exact c_makes_no d hC hO hH hn f B
theorem z_wn {k : Nat} (hk : k < 100) {m : Nat} (hm : m ≤ 100) : ¬ (nI k = -2) ∧ (nI (m + 1) ≠ 0) := ⟨fun e => by have := congrArg Int32.toInt e; rw [nI_toInt (by omega)] at this; rw [show (-2 : Int32).toInt = -2 from rfl] at this; omega, fun e => by have := nI_inj0 e (by omega); omega⟩
theorem z_le0 {m : Nat} (hm : m ≤ 100) : nI m ≤ 0 ↔ m = 0 := ⟨fun h => by have h1 := (nI_leI (a := m) (b := 0) (by omega) (by decide)).mp (by rw [nI_0]; exact h); omega, fun h => by rw [h]; decide⟩
theorem c_when_ok {n : Nat} {sl : Nat × Nat} {kd : Nat → Nat × Nat} {I : Nat → Nat → Int32} {L : Nat → Nat → Int64} {Rf : Nat → Nat → Option Nat} (d : Nat) {T : zT} {H : Nat} (hC : zC n kd I L Rf T) (hO : zOk H T) (hH : H ≤ 1000000000) {v : Int32} (hn : -20 ≤ v ∧ v ≤ 20) (f : Nat) (B : Nat → Int32) : ez_Q (f + 100) B f (fun _ => True) mX10_when (d + 60) [.ref 0, .int v] (n, sl, kd, I, L, Rf) (zpC n sl kd I L Rf (some (.int (s_when T v).1)) (s_when T v).2) := by
  have hF := hC.F; have hc7 := hO.c
  have hK0 : zK n kd I L Rf I I L Rf T none none false := zK.start hC
  refine ez_meth pn_X.2.2.2.2.2.2.2.2.2.2.1 (Nat.le_of_ble_eq_true rfl) ?_
  show ez_P _ _ _ _ _ _ 0 [(0, .ref 0), (1, .int v)] [] (n, sl, kd, I, L, Rf) _
  refine ez_iload_n (i := 1) dX10_when_0 rfl rfl ?_
  refine ez_bipush (v := (-20)) dX10_when_1 (by decide) ?_
  refine ez_bipush (v := 20) dX10_when_3 (by decide) ?_
  refine ez_callS (M1 := mX10_within) (rest := []) dX10_when_5 mlX10_158 msX10_within rfl (Nat.le_of_ble_eq_true rfl) rfl (zq_b1 hn (zq_b (q_X10_within (d + 59) v (-20) 20) (n, sl, kd, I, L, Rf))) eb_rok ?_
  rintro _ _ ⟨rfl, rfl⟩
  show ez_P _ _ _ _ _ _ 8 [(0, .ref 0), (1, .int v)] (.int 1 :: []) _ _
  refine ez_if_ne (tgt := 13) dX10_when_8 (by decide) (fun c1 => ?_) (fun c1 => absurd (by decide) c1)
  refine ez_aload_n (i := 0) dX10_when_13 rfl rfl ?_
  refine ez_callVm (M1 := mX10_lookAhead) (rest := []) dX10_when_14 mlX10_282 mvX10_lookAhead rfl (hF.lt (by decide)) (hF.kc (by decide) rfl) (Nat.le_of_ble_eq_true rfl) rfl (k_look (T := T) (I := I) (L := L) (d + 39) hK0.C hO (f + 99) _) (eb_vok rfl) ?_
  rintro _ _ _ rfl ⟨rfl, rfl⟩
  refine ez_nmI (fun I2 hI2 => ?_)
  show ez_P _ _ _ _ _ _ 17 [(0, .ref 0), (1, .int v)] [] (n, sl, kd, I2, L, Rf) _
  have hK3 : zK n kd I L Rf I I2 L Rf T (some T.x) none false := by rw [hI2]; exact hK0.cpg
  refine ez_bipush (v := (-2)) dX10_when_17 (by decide) ?_
  refine ez_istore_n (l' := [(2, .int ((-2))), (0, .ref 0), (1, .int v)]) dX10_when_19 rfl (by decide) rfl ?_
  refine ez_iconst (v := 0) dX10_when_20 (by decide) ?_
  refine ez_istore_n (l' := [(3, .int 0), (2, .int ((-2))), (0, .ref 0), (1, .int v)]) dX10_when_21 rfl (by decide) rfl ?_
  refine ez_iconst (v := 0) dX10_when_22 (by decide) ?_
  refine ez_istore (l' := [(4, .int 0), (3, .int 0), (2, .int ((-2))), (0, .ref 0), (1, .int v)]) dX10_when_23 (by decide) rfl ?_
  refine ez_eq (l2 := [(4, .int (nI 0)), (3, .int 0), (2, .int ((-2))), (0, .ref 0), (1, .int v)]) (σ2 := (n, sl, kd, I2, L, Rf)) rfl rfl rfl rfl ?_
  refine ez_for 100 (fun k (a : (Nat → Nat → Int32) × (Nat → Nat → Int64) × Int32 × Int32) => ([(4, .int (nI k)), (3, .int a.2.2.2), (2, .int a.2.2.1), (0, .ref 0), (1, .int v)], (n, sl, kd, a.1, a.2.1, Rf))) (fun k a => zK n kd I L Rf I a.1 a.2.1 Rf T (some (zhk T T.x k)) none false ∧ (a.2.2.1, a.2.2.2) = a_when T v k ∧ ∃ m, m ≤ k ∧ a.2.2.2 = nI m ∧ (m = 0 ↔ a.2.2.1 = -2)) ?_ ?_ 100 0 (I2, L, (-2), 0) (by omega) ⟨hK3, rfl, ⟨0, by omega, rfl, fun _ => rfl, fun _ => rfl⟩⟩
  · rintro k ⟨Ia, La, ff, mm⟩ hk ⟨hKl, hac, hex⟩ ih
    have hKl : zK n kd I L Rf I Ia La Rf T (some (zhk T T.x k)) none false := hKl
    have hac : (ff, mm) = a_when T v k := hac
    have hex : ∃ m, m ≤ k ∧ mm = nI m ∧ (m = 0 ↔ ff = -2) := hex
    show ez_P _ _ _ _ _ _ 25 [(4, .int (nI k)), (3, .int mm), (2, .int ff), (0, .ref 0), (1, .int v)] [] (n, sl, kd, Ia, La, Rf) _
    refine ez_iload (i := 4) dX10_when_25 rfl ?_
    refine ez_bipush (v := 99) dX10_when_27 (by decide) ?_
    refine ez_icmp_gt (tgt := 76) dX10_when_29 (by decide) (fun c4 => absurd c4 (Int32.not_lt.mpr (nI_le (b := 99) (by omega) (by decide)))) (fun c4 => ?_)
    refine ez_aload_n (i := 0) dX10_when_32 rfl rfl ?_
    refine ez_getR dX10_when_33 flX10_37 (hF.lt (by decide)) (hF.kc (by decide) rfl) (hF.pt 25 rfl) ?_
    refine ez_getI dX10_when_36 flX10_208 (hF.lt (by decide)) (hF.kc (by decide) rfl) ?_
    refine ez_topE (y := (zhk T T.x k) 22) (hKl.gs _ rfl).l ?_
    refine ez_iload_n (i := 1) dX10_when_39 rfl rfl ?_
    refine ez_icmp_ne (tgt := 57) dX10_when_40 (by decide) (fun c5 => ?_) (fun c5 => ?_)
    · skip
      refine ez_aload_n (i := 0) dX10_when_57 rfl rfl ?_
      refine ez_getR dX10_when_58 flX10_26 (hF.lt (by decide)) (hF.kc (by decide) rfl) (hF.pt 4 rfl) ?_
      refine ez_aload_n (i := 0) dX10_when_61 rfl rfl ?_
      refine ez_getR dX10_when_62 flX10_37 (hF.lt (by decide)) (hF.kc (by decide) rfl) (hF.pt 25 rfl) ?_
      refine ez_iconst (v := 1) dX10_when_65 (by decide) ?_
      refine ez_callVm (M1 := mX6_letHoursGo) (rest := []) dX10_when_66 mlX10_195 mvX6_letHoursGo rfl (hF.lt (by decide)) (hF.kc (by decide) rfl) (Nat.le_of_ble_eq_true rfl) rfl (k_let (T := T) (I := Ia) (L := La) (d + 54) hKl.C hO (j := 25) (by decide) (hKl.gs _ rfl) (zhk_xr hO.x hO.wm.1 hO.wd hO.c k) (by omega) (N := 1) (by omega) (y := T.x) (zhk_crew k) (f + 99)) k_hp_ok ?_
      rintro _ _ _ rfl ⟨rfl, I6, rfl, hs7, hn8⟩
      show ez_P _ _ _ _ _ _ 69 [(4, .int (nI k)), (3, .int mm), (2, .int ff), (0, .ref 0), (1, .int v)] (.int (zhc T (zhk T T.x k) 1) :: []) (n, sl, kd, I6, La, Rf) _
      have hK9 : zK n kd I L Rf I I6 La Rf T (some (zhk T T.x (k + 1))) none false := by exact hKl.gu hs7 (fun c hc => hn8 c (by omega))
      refine ez_pop dX10_when_69 rfl ?_
      refine ez_iinc (v := (nI (k + 1))) (l' := [(4, .int ((nI (k + 1)))), (3, .int mm), (2, .int ff), (0, .ref 0), (1, .int v)]) dX10_when_70 rfl (nI_1 _) (by decide) rfl ?_
      refine ez_goto (tgt := 25) dX10_when_73 (by decide) ?_
      exact ez_eq (l2 := [(4, .int (nI (k + 1))), (3, .int mm), (2, .int ff), (0, .ref 0), (1, .int v)]) rfl rfl rfl rfl (ih (I6, La, ff, mm) ⟨hK9, (by rw [a_when, ← hac, b_when]; simp only [if_neg c5]), (by obtain ⟨m, h1, h2, h3⟩ := hex; exact ⟨m, by omega, h2, h3⟩)⟩)
    · skip
      refine ez_iload_n (i := 3) dX10_when_43 rfl rfl ?_
      refine ez_if_ne (tgt := 52) dX10_when_44 (by decide) (fun c10 => ?_) (fun c10 => ?_)
      · skip
        refine ez_iload_n (i := 2) dX10_when_52 rfl rfl ?_
        refine ez_istore_n (l' := [(2, .int ff), (4, .int (nI k)), (3, .int mm), (0, .ref 0), (1, .int v)]) dX10_when_53 rfl (by decide) rfl ?_
        refine ez_iinc (v := (mm + 1)) (l' := [(3, .int ((mm + 1))), (2, .int ff), (4, .int (nI k)), (0, .ref 0), (1, .int v)]) dX10_when_54 rfl rfl (by decide) rfl ?_
        refine ez_aload_n (i := 0) dX10_when_57 rfl rfl ?_
        refine ez_getR dX10_when_58 flX10_26 (hF.lt (by decide)) (hF.kc (by decide) rfl) (hF.pt 4 rfl) ?_
        refine ez_aload_n (i := 0) dX10_when_61 rfl rfl ?_
        refine ez_getR dX10_when_62 flX10_37 (hF.lt (by decide)) (hF.kc (by decide) rfl) (hF.pt 25 rfl) ?_
        refine ez_iconst (v := 1) dX10_when_65 (by decide) ?_
        refine ez_callVm (M1 := mX6_letHoursGo) (rest := []) dX10_when_66 mlX10_195 mvX6_letHoursGo rfl (hF.lt (by decide)) (hF.kc (by decide) rfl) (Nat.le_of_ble_eq_true rfl) rfl (k_let (T := T) (I := Ia) (L := La) (d + 54) hKl.C hO (j := 25) (by decide) (hKl.gs _ rfl) (zhk_xr hO.x hO.wm.1 hO.wd hO.c k) (by omega) (N := 1) (by omega) (y := T.x) (zhk_crew k) (f + 99)) k_hp_ok ?_
        rintro _ _ _ rfl ⟨rfl, I11, rfl, hs12, hn13⟩
        show ez_P _ _ _ _ _ _ 69 [(3, .int ((mm + 1))), (2, .int ff), (4, .int (nI k)), (0, .ref 0), (1, .int v)] (.int (zhc T (zhk T T.x k) 1) :: []) (n, sl, kd, I11, La, Rf) _
        have hK14 : zK n kd I L Rf I I11 La Rf T (some (zhk T T.x (k + 1))) none false := by exact hKl.gu hs12 (fun c hc => hn13 c (by omega))
        refine ez_pop dX10_when_69 rfl ?_
        refine ez_iinc (v := (nI (k + 1))) (l' := [(4, .int ((nI (k + 1)))), (3, .int ((mm + 1))), (2, .int ff), (0, .ref 0), (1, .int v)]) dX10_when_70 rfl (nI_1 _) (by decide) rfl ?_
        refine ez_goto (tgt := 25) dX10_when_73 (by decide) ?_
        exact ez_eq (l2 := [(4, .int (nI (k + 1))), (3, .int ((mm + 1))), (2, .int ff), (0, .ref 0), (1, .int v)]) rfl rfl rfl rfl (ih (I11, La, ff, (mm + 1)) ⟨hK14, (by rw [a_when, ← hac, b_when]; simp only [if_pos (Classical.not_not.mp c5)]; rw [if_neg (fun e => by obtain ⟨m, h1, h2, h3⟩ := hex; exact c10 (by rw [h2, h3.mpr e]; rfl))]), (by obtain ⟨m, h1, h2, h3⟩ := hex; exact ⟨m + 1, by omega, by rw [h2, nI_1], ⟨fun e => absurd e (by omega), fun e => absurd (by rw [h2, h3.mpr e]; rfl) c10⟩⟩)⟩)
      · skip
        refine ez_iload (i := 4) dX10_when_47 rfl ?_
        refine ez_goto (tgt := 53) dX10_when_49 (by decide) ?_
        refine ez_istore_n (l' := [(2, .int (nI k)), (4, .int (nI k)), (3, .int mm), (0, .ref 0), (1, .int v)]) dX10_when_53 rfl (by decide) rfl ?_
        refine ez_iinc (v := (mm + 1)) (l' := [(3, .int ((mm + 1))), (2, .int (nI k)), (4, .int (nI k)), (0, .ref 0), (1, .int v)]) dX10_when_54 rfl rfl (by decide) rfl ?_
        refine ez_aload_n (i := 0) dX10_when_57 rfl rfl ?_
        refine ez_getR dX10_when_58 flX10_26 (hF.lt (by decide)) (hF.kc (by decide) rfl) (hF.pt 4 rfl) ?_
        refine ez_aload_n (i := 0) dX10_when_61 rfl rfl ?_
        refine ez_getR dX10_when_62 flX10_37 (hF.lt (by decide)) (hF.kc (by decide) rfl) (hF.pt 25 rfl) ?_
        refine ez_iconst (v := 1) dX10_when_65 (by decide) ?_
        refine ez_callVm (M1 := mX6_letHoursGo) (rest := []) dX10_when_66 mlX10_195 mvX6_letHoursGo rfl (hF.lt (by decide)) (hF.kc (by decide) rfl) (Nat.le_of_ble_eq_true rfl) rfl (k_let (T := T) (I := Ia) (L := La) (d + 54) hKl.C hO (j := 25) (by decide) (hKl.gs _ rfl) (zhk_xr hO.x hO.wm.1 hO.wd hO.c k) (by omega) (N := 1) (by omega) (y := T.x) (zhk_crew k) (f + 99)) k_hp_ok ?_
        rintro _ _ _ rfl ⟨rfl, I15, rfl, hs16, hn17⟩
        show ez_P _ _ _ _ _ _ 69 [(3, .int ((mm + 1))), (2, .int (nI k)), (4, .int (nI k)), (0, .ref 0), (1, .int v)] (.int (zhc T (zhk T T.x k) 1) :: []) (n, sl, kd, I15, La, Rf) _
        have hK18 : zK n kd I L Rf I I15 La Rf T (some (zhk T T.x (k + 1))) none false := by exact hKl.gu hs16 (fun c hc => hn17 c (by omega))
        refine ez_pop dX10_when_69 rfl ?_
        refine ez_iinc (v := (nI (k + 1))) (l' := [(4, .int ((nI (k + 1)))), (3, .int ((mm + 1))), (2, .int (nI k)), (0, .ref 0), (1, .int v)]) dX10_when_70 rfl (nI_1 _) (by decide) rfl ?_
        refine ez_goto (tgt := 25) dX10_when_73 (by decide) ?_
        exact ez_eq (l2 := [(4, .int (nI (k + 1))), (3, .int ((mm + 1))), (2, .int (nI k)), (0, .ref 0), (1, .int v)]) rfl rfl rfl rfl (ih (I15, La, nI k, (mm + 1)) ⟨hK18, (by rw [a_when, ← hac, b_when]; simp only [if_pos (Classical.not_not.mp c5)]; rw [if_pos (by obtain ⟨m, h1, h2, h3⟩ := hex; exact h3.mp (nI_inj0 (h2.symm.trans (Classical.not_not.mp c10)) (by omega)))]), (by obtain ⟨m, h1, h2, h3⟩ := hex; exact ⟨m + 1, by omega, by rw [h2, nI_1], ⟨fun e => absurd e (by omega), fun e => absurd e (z_wn hk (m := 0) (by omega)).1⟩⟩)⟩)
  · rintro ⟨Ia, La, ff, mm⟩ ⟨hKl, hac, hex⟩
    have hKl : zK n kd I L Rf I Ia La Rf T (some (zhk T T.x 100)) none false := hKl
    have hac : (ff, mm) = a_when T v 100 := hac
    have hex : ∃ m, m ≤ 100 ∧ mm = nI m ∧ (m = 0 ↔ ff = -2) := hex
    show ez_P _ _ _ _ _ _ 25 [(4, .int (nI 100)), (3, .int mm), (2, .int ff), (0, .ref 0), (1, .int v)] [] (n, sl, kd, Ia, La, Rf) _
    refine ez_iload (i := 4) dX10_when_25 rfl ?_
    refine ez_bipush (v := 99) dX10_when_27 (by decide) ?_
    refine ez_icmp_gt (tgt := 76) dX10_when_29 (by decide) (fun c19 => ?_) (fun c19 => absurd (by decide) c19)
    refine ez_iload_n (i := 3) dX10_when_76 rfl rfl ?_
    refine ez_if_le (tgt := 88) dX10_when_77 (by decide) (fun c20 => ?_) (fun c20 => ?_)
    · skip
      refine ez_iload_n (i := 2) dX10_when_88 rfl rfl ?_
      refine ez_iret dX10_when_89 rfl rfl ?_
      obtain ⟨m, h1, h2, h3⟩ := hex
      have hff : ff = -2 := h3.mp ((z_le0 (by omega)).mp (by rw [← h2]; exact c20))
      rw [show s_when T v = (ff, T) from by unfold s_when; rw [if_pos hn, ← hac, if_pos (show ff = -2 from hff), hff]]
      exact hKl.end
    · skip
      refine ez_aload_n (i := 0) dX10_when_80 rfl rfl ?_
      refine ez_getR dX10_when_81 flX10_19 (hF.lt (by decide)) (hF.kc (by decide) rfl) (hF.pt 3 rfl) ?_
      refine ez_iload_n (i := 3) dX10_when_84 rfl rfl ?_
      refine ez_callV (M1 := mX4_tell) (rest := []) dX10_when_85 mlX10_285 mvX4_tell rfl (hF.lt (by decide)) (hF.kc (by decide) rfl) (Nat.le_of_ble_eq_true rfl) rfl (y_X4_tell (I := Ia) (L := La) (d + 58) hF mm) z_tok ?_
      rintro _ _ ⟨rfl, I21, L22, rfl, hr23, ho24⟩
      show ez_P _ _ _ _ _ _ 88 [(4, .int (nI 100)), (3, .int mm), (2, .int ff), (0, .ref 0), (1, .int v)] [] (n, sl, kd, I21, L22, Rf) _
      have hK25 : zK n kd I L Rf I I21 L22 Rf (T.w_rw [mm.toInt64]) (some (zhk T T.x 100)) none false := by exact hKl.tell hr23 ho24
      refine ez_iload_n (i := 2) dX10_when_88 rfl rfl ?_
      refine ez_iret dX10_when_89 rfl rfl ?_
      obtain ⟨m, h1, h2, h3⟩ := hex
      have hff : ¬ ff = -2 := fun e => c20 (by rw [h2]; exact (z_le0 (by omega)).mpr (h3.mpr e))
      rw [show s_when T v = (ff, T.w_rw [mm.toInt64]) from by unfold s_when; rw [if_pos hn, ← hac, if_neg (show ¬ ff = -2 from hff)]]
      exact hK25.end
theorem c_when_no {n : Nat} {sl : Nat × Nat} {kd : Nat → Nat × Nat} {I : Nat → Nat → Int32} {L : Nat → Nat → Int64} {Rf : Nat → Nat → Option Nat} (d : Nat) {T : zT} {H : Nat} (hC : zC n kd I L Rf T) (hO : zOk H T) (hH : H ≤ 1000000000) {v : Int32} (hn : ¬ (-20 ≤ v ∧ v ≤ 20)) (f : Nat) (B : Nat → Int32) : ez_Q (f + 100) B f (fun _ => True) mX10_when (d + 60) [.ref 0, .int v] (n, sl, kd, I, L, Rf) (zpC n sl kd I L Rf (some (.int (s_when T v).1)) (s_when T v).2) := by
  have hF := hC.F; have hc7 := hO.c
  have hK0 : zK n kd I L Rf I I L Rf T none none false := zK.start hC
  have hsp : s_when T v = ((-1), T) := (by unfold s_when; rw [if_neg hn])
  rw [hsp]
  refine ez_meth pn_X.2.2.2.2.2.2.2.2.2.2.1 (Nat.le_of_ble_eq_true rfl) ?_
  show ez_P _ _ _ _ _ _ 0 [(0, .ref 0), (1, .int v)] [] (n, sl, kd, I, L, Rf) _
  refine ez_iload_n (i := 1) dX10_when_0 rfl rfl ?_
  refine ez_bipush (v := (-20)) dX10_when_1 (by decide) ?_
  refine ez_bipush (v := 20) dX10_when_3 (by decide) ?_
  refine ez_callS (M1 := mX10_within) (rest := []) dX10_when_5 mlX10_158 msX10_within rfl (Nat.le_of_ble_eq_true rfl) rfl (zq_b0 hn (zq_b (q_X10_within (d + 59) v (-20) 20) (n, sl, kd, I, L, Rf))) eb_rok ?_
  rintro _ _ ⟨rfl, rfl⟩
  show ez_P _ _ _ _ _ _ 8 [(0, .ref 0), (1, .int v)] (.int 0 :: []) _ _
  refine ez_if_ne (tgt := 13) dX10_when_8 (by decide) (fun c1 => absurd c1 (by decide)) (fun c1 => ?_)
  refine ez_iconst (v := (-1)) dX10_when_11 (by decide) ?_
  refine ez_iret dX10_when_12 rfl rfl ?_
  exact hK0.end
theorem c_when {n : Nat} {sl : Nat × Nat} {kd : Nat → Nat × Nat} {I : Nat → Nat → Int32} {L : Nat → Nat → Int64} {Rf : Nat → Nat → Option Nat} (d : Nat) {T : zT} {H : Nat} (hC : zC n kd I L Rf T) (hO : zOk H T) (hH : H ≤ 1000000000) (v : Int32) (f : Nat) (B : Nat → Int32) : ez_Q (f + 100) B f (fun _ => True) mX10_when (d + 60) [.ref 0, .int v] (n, sl, kd, I, L, Rf) (zpC n sl kd I L Rf (some (.int (s_when T v).1)) (s_when T v).2) := by
  by_cases hn : -20 ≤ v ∧ v ≤ 20
  · exact c_when_ok d hC hO hH hn f B
  · exact c_when_no d hC hO hH hn f B
theorem z_rg_k : ∀ k, k < 41 → (-1000000 : Int32) < nI k - 20 ∧ nI k - 20 < 1000000 ∧ ¬ (nI k - 20 ≤ -1000000) ∧ ¬ (1000000 ≤ nI k - 20) := by decide +kernel
theorem a_rolls_1 {T : zT} {H : Nat} (hx : zxr T.c H T.x) : (T.x 22, T.x 22, 0, 0) = a_rolls T 1 := by
  obtain ⟨k, hk, e⟩ := hx.l
  obtain ⟨h1, h2, h3, h4⟩ := z_rg_k k hk
  show _ = b_rolls T 0 (-1000000, 1000000, 0, 0)
  unfold b_rolls
  simp only [show zhk T T.x 0 = T.x from rfl]
  rw [e, if_pos h1, if_pos h2, if_neg h3, if_neg h4]; rfl
theorem c_rolls_ok {n : Nat} {sl : Nat × Nat} {kd : Nat → Nat × Nat} {I : Nat → Nat → Int32} {L : Nat → Nat → Int64} {Rf : Nat → Nat → Option Nat} (d : Nat) {T : zT} {H : Nat} (hC : zC n kd I L Rf T) (hO : zOk H T) (hH : H ≤ 1000000000) {n0 : Nat} (hn : n0 ≤ 99) (f : Nat) (B : Nat → Int32) : ez_Q (f + 100) B f (fun _ => True) mX10_rolls (d + 60) [.ref 0, .int (nI n0)] (n, sl, kd, I, L, Rf) (zpC n sl kd I L Rf (some (.int (s_rolls T (nI n0)).1)) (s_rolls T (nI n0)).2) := by
  have hF := hC.F; have hc7 := hO.c
  have hK0 : zK n kd I L Rf I I L Rf T none none false := zK.start hC
  refine ez_meth pn_X.2.2.2.2.2.2.2.2.2.2.1 (Nat.le_of_ble_eq_true rfl) ?_
  show ez_P _ _ _ _ _ _ 0 [(0, .ref 0), (1, .int (nI n0))] [] (n, sl, kd, I, L, Rf) _
  refine ez_iload_n (i := 1) dX10_rolls_0 rfl rfl ?_
  refine ez_iconst (v := 0) dX10_rolls_1 (by decide) ?_
  refine ez_bipush (v := 99) dX10_rolls_2 (by decide) ?_
  refine ez_callS (M1 := mX10_within) (rest := []) dX10_rolls_4 mlX10_158 msX10_within rfl (Nat.le_of_ble_eq_true rfl) rfl (zq_b1 (z_n9 (N := 99) hn (by decide)) (zq_b (q_X10_within (d + 59) (nI n0) 0 99) (n, sl, kd, I, L, Rf))) eb_rok ?_
  rintro _ _ ⟨rfl, rfl⟩
  show ez_P _ _ _ _ _ _ 7 [(0, .ref 0), (1, .int (nI n0))] (.int 1 :: []) _ _
  refine ez_if_ne (tgt := 12) dX10_rolls_7 (by decide) (fun c1 => ?_) (fun c1 => absurd (by decide) c1)
  refine ez_aload_n (i := 0) dX10_rolls_12 rfl rfl ?_
  refine ez_callVm (M1 := mX10_lookAhead) (rest := []) dX10_rolls_13 mlX10_282 mvX10_lookAhead rfl (hF.lt (by decide)) (hF.kc (by decide) rfl) (Nat.le_of_ble_eq_true rfl) rfl (k_look (T := T) (I := I) (L := L) (d + 39) hK0.C hO (f + 99) _) (eb_vok rfl) ?_
  rintro _ _ _ rfl ⟨rfl, rfl⟩
  refine ez_nmI (fun I2 hI2 => ?_)
  show ez_P _ _ _ _ _ _ 16 [(0, .ref 0), (1, .int (nI n0))] [] (n, sl, kd, I2, L, Rf) _
  have hK3 : zK n kd I L Rf I I2 L Rf T (some T.x) none false := by rw [hI2]; exact hK0.cpg
  refine ez_aload_n (i := 0) dX10_rolls_16 rfl rfl ?_
  refine ez_getR dX10_rolls_17 flX10_37 (hF.lt (by decide)) (hF.kc (by decide) rfl) (hF.pt 25 rfl) ?_
  refine ez_getI dX10_rolls_20 flX10_208 (hF.lt (by decide)) (hF.kc (by decide) rfl) ?_
  refine ez_topE (y := T.x 22) (hK3.gs _ rfl).l ?_
  refine ez_istore_n (l' := [(2, .int (T.x 22)), (0, .ref 0), (1, .int (nI n0))]) dX10_rolls_23 rfl (by decide) rfl ?_
  refine ez_iconst (v := 0) dX10_rolls_24 (by decide) ?_
  refine ez_istore_n (l' := [(3, .int 0), (2, .int (T.x 22)), (0, .ref 0), (1, .int (nI n0))]) dX10_rolls_25 rfl (by decide) rfl ?_
  refine ez_aload_n (i := 0) dX10_rolls_26 rfl rfl ?_
  refine ez_getR dX10_rolls_27 flX10_37 (hF.lt (by decide)) (hF.kc (by decide) rfl) (hF.pt 25 rfl) ?_
  refine ez_getI dX10_rolls_30 flX10_208 (hF.lt (by decide)) (hF.kc (by decide) rfl) ?_
  refine ez_topE (y := T.x 22) (hK3.gs _ rfl).l ?_
  refine ez_istore (l' := [(4, .int (T.x 22)), (3, .int 0), (2, .int (T.x 22)), (0, .ref 0), (1, .int (nI n0))]) dX10_rolls_33 (by decide) rfl ?_
  refine ez_iconst (v := 0) dX10_rolls_35 (by decide) ?_
  refine ez_istore (l' := [(5, .int 0), (4, .int (T.x 22)), (3, .int 0), (2, .int (T.x 22)), (0, .ref 0), (1, .int (nI n0))]) dX10_rolls_36 (by decide) rfl ?_
  refine ez_iconst (v := 1) dX10_rolls_38 (by decide) ?_
  refine ez_istore (l' := [(6, .int 1), (5, .int 0), (4, .int (T.x 22)), (3, .int 0), (2, .int (T.x 22)), (0, .ref 0), (1, .int (nI n0))]) dX10_rolls_39 (by decide) rfl ?_
  refine ez_eq (l2 := [(6, .int (nI (0 + 1))), (5, .int 0), (4, .int (T.x 22)), (3, .int 0), (2, .int (T.x 22)), (0, .ref 0), (1, .int (nI n0))]) (σ2 := (n, sl, kd, I2, L, Rf)) rfl rfl rfl rfl ?_
  refine ez_for n0 (fun k (a : (Nat → Nat → Int32) × (Nat → Nat → Int64) × Int32 × Int32 × Int32 × Int32) => ([(6, .int (nI (k + 1))), (5, .int a.2.2.2.2.2), (4, .int a.2.2.2.1), (3, .int a.2.2.2.2.1), (2, .int a.2.2.1), (0, .ref 0), (1, .int (nI n0))], (n, sl, kd, a.1, a.2.1, Rf))) (fun k a => zK n kd I L Rf I a.1 a.2.1 Rf T (some (zhk T T.x k)) none false ∧ (a.2.2.1, a.2.2.2.1, a.2.2.2.2.1, a.2.2.2.2.2) = a_rolls T (k + 1)) ?_ ?_ n0 0 (I2, L, T.x 22, T.x 22, 0, 0) (by omega) ⟨hK3, (a_rolls_1 hO.x)⟩
  · rintro k ⟨Ia, La, ra, rb, rc, rd⟩ hk ⟨hKl, hac⟩ ih
    have hKl : zK n kd I L Rf I Ia La Rf T (some (zhk T T.x k)) none false := hKl
    have hac : (ra, rb, rc, rd) = a_rolls T (k + 1) := hac
    show ez_P _ _ _ _ _ _ 41 [(6, .int (nI (k + 1))), (5, .int rd), (4, .int rb), (3, .int rc), (2, .int ra), (0, .ref 0), (1, .int (nI n0))] [] (n, sl, kd, Ia, La, Rf) _
    refine ez_iload (i := 6) dX10_rolls_41 rfl ?_
    refine ez_iload_n (i := 1) dX10_rolls_43 rfl rfl ?_
    refine ez_icmp_gt (tgt := 113) dX10_rolls_44 (by decide) (fun c4 => absurd c4 (Int32.not_lt.mpr (nI_le (by omega) (by omega)))) (fun c4 => ?_)
    refine ez_aload_n (i := 0) dX10_rolls_47 rfl rfl ?_
    refine ez_getR dX10_rolls_48 flX10_26 (hF.lt (by decide)) (hF.kc (by decide) rfl) (hF.pt 4 rfl) ?_
    refine ez_aload_n (i := 0) dX10_rolls_51 rfl rfl ?_
    refine ez_getR dX10_rolls_52 flX10_37 (hF.lt (by decide)) (hF.kc (by decide) rfl) (hF.pt 25 rfl) ?_
    refine ez_iconst (v := 1) dX10_rolls_55 (by decide) ?_
    refine ez_callVm (M1 := mX6_letHoursGo) (rest := []) dX10_rolls_56 mlX10_195 mvX6_letHoursGo rfl (hF.lt (by decide)) (hF.kc (by decide) rfl) (Nat.le_of_ble_eq_true rfl) rfl (k_let (T := T) (I := Ia) (L := La) (d + 54) hKl.C hO (j := 25) (by decide) (hKl.gs _ rfl) (zhk_xr hO.x hO.wm.1 hO.wd hO.c k) (by omega) (N := 1) (by omega) (y := T.x) (zhk_crew k) (f + 99)) k_hp_ok ?_
    rintro _ _ _ rfl ⟨rfl, I5, rfl, hs6, hn7⟩
    show ez_P _ _ _ _ _ _ 59 [(6, .int (nI (k + 1))), (5, .int rd), (4, .int rb), (3, .int rc), (2, .int ra), (0, .ref 0), (1, .int (nI n0))] (.int (zhc T (zhk T T.x k) 1) :: []) (n, sl, kd, I5, La, Rf) _
    have hK8 : zK n kd I L Rf I I5 La Rf T (some (zhk T T.x (k + 1))) none false := by exact hKl.gu hs6 (fun c hc => hn7 c (by omega))
    refine ez_pop dX10_rolls_59 rfl ?_
    refine ez_aload_n (i := 0) dX10_rolls_60 rfl rfl ?_
    refine ez_getR dX10_rolls_61 flX10_37 (hF.lt (by decide)) (hF.kc (by decide) rfl) (hF.pt 25 rfl) ?_
    refine ez_getI dX10_rolls_64 flX10_208 (hF.lt (by decide)) (hF.kc (by decide) rfl) ?_
    refine ez_topE (y := (zhk T T.x (k + 1)) 22) (hK8.gs _ rfl).l ?_
    refine ez_iload_n (i := 2) dX10_rolls_67 rfl rfl ?_
    refine ez_icmp_le (tgt := 82) dX10_rolls_68 (by decide) (fun c9 => ?_) (fun c9 => ?_)
    · skip
      refine ez_aload_n (i := 0) dX10_rolls_82 rfl rfl ?_
      refine ez_getR dX10_rolls_83 flX10_37 (hF.lt (by decide)) (hF.kc (by decide) rfl) (hF.pt 25 rfl) ?_
      refine ez_getI dX10_rolls_86 flX10_208 (hF.lt (by decide)) (hF.kc (by decide) rfl) ?_
      refine ez_topE (y := (zhk T T.x (k + 1)) 22) (hK8.gs _ rfl).l ?_
      refine ez_iload (i := 4) dX10_rolls_89 rfl ?_
      refine ez_icmp_ge (tgt := 107) dX10_rolls_91 (by decide) (fun c10 => ?_) (fun c10 => ?_)
      · skip
        refine ez_iinc (v := (nI (k + 2))) (l' := [(6, .int ((nI (k + 2)))), (5, .int rd), (4, .int rb), (3, .int rc), (2, .int ra), (0, .ref 0), (1, .int (nI n0))]) dX10_rolls_107 rfl (nI_1 _) (by decide) rfl ?_
        refine ez_goto (tgt := 41) dX10_rolls_110 (by decide) ?_
        exact ez_eq (l2 := [(6, .int (nI (k + 1 + 1))), (5, .int rd), (4, .int rb), (3, .int rc), (2, .int ra), (0, .ref 0), (1, .int (nI n0))]) rfl rfl rfl rfl (ih (I5, La, ra, rb, rc, rd) ⟨hK8, (by rw [a_rolls, ← hac, b_rolls]; simp only [if_pos c9, if_neg (Int32.not_lt.mpr c9), if_pos c10, if_neg (Int32.not_lt.mpr c10)])⟩)
      · skip
        refine ez_aload_n (i := 0) dX10_rolls_94 rfl rfl ?_
        refine ez_getR dX10_rolls_95 flX10_37 (hF.lt (by decide)) (hF.kc (by decide) rfl) (hF.pt 25 rfl) ?_
        refine ez_getI dX10_rolls_98 flX10_208 (hF.lt (by decide)) (hF.kc (by decide) rfl) ?_
        refine ez_topE (y := (zhk T T.x (k + 1)) 22) (hK8.gs _ rfl).l ?_
        refine ez_istore (l' := [(4, .int ((zhk T T.x (k + 1)) 22)), (6, .int (nI (k + 1))), (5, .int rd), (3, .int rc), (2, .int ra), (0, .ref 0), (1, .int (nI n0))]) dX10_rolls_101 (by decide) rfl ?_
        refine ez_iload (i := 6) dX10_rolls_103 rfl ?_
        refine ez_istore (l' := [(5, .int (nI (k + 1))), (4, .int ((zhk T T.x (k + 1)) 22)), (6, .int (nI (k + 1))), (3, .int rc), (2, .int ra), (0, .ref 0), (1, .int (nI n0))]) dX10_rolls_105 (by decide) rfl ?_
        refine ez_iinc (v := (nI (k + 2))) (l' := [(6, .int ((nI (k + 2)))), (5, .int (nI (k + 1))), (4, .int ((zhk T T.x (k + 1)) 22)), (3, .int rc), (2, .int ra), (0, .ref 0), (1, .int (nI n0))]) dX10_rolls_107 rfl (nI_1 _) (by decide) rfl ?_
        refine ez_goto (tgt := 41) dX10_rolls_110 (by decide) ?_
        exact ez_eq (l2 := [(6, .int (nI (k + 1 + 1))), (5, .int (nI (k + 1))), (4, .int ((zhk T T.x (k + 1)) 22)), (3, .int rc), (2, .int ra), (0, .ref 0), (1, .int (nI n0))]) rfl rfl rfl rfl (ih (I5, La, ra, (zhk T T.x (k + 1)) 22, rc, nI (k + 1)) ⟨hK8, (by rw [a_rolls, ← hac, b_rolls]; simp only [if_pos c9, if_neg (Int32.not_lt.mpr c9), if_neg c10, if_pos (Int32.not_le.mp c10)])⟩)
    · skip
      refine ez_aload_n (i := 0) dX10_rolls_71 rfl rfl ?_
      refine ez_getR dX10_rolls_72 flX10_37 (hF.lt (by decide)) (hF.kc (by decide) rfl) (hF.pt 25 rfl) ?_
      refine ez_getI dX10_rolls_75 flX10_208 (hF.lt (by decide)) (hF.kc (by decide) rfl) ?_
      refine ez_topE (y := (zhk T T.x (k + 1)) 22) (hK8.gs _ rfl).l ?_
      refine ez_istore_n (l' := [(2, .int ((zhk T T.x (k + 1)) 22)), (6, .int (nI (k + 1))), (5, .int rd), (4, .int rb), (3, .int rc), (0, .ref 0), (1, .int (nI n0))]) dX10_rolls_78 rfl (by decide) rfl ?_
      refine ez_iload (i := 6) dX10_rolls_79 rfl ?_
      refine ez_istore_n (l' := [(3, .int (nI (k + 1))), (2, .int ((zhk T T.x (k + 1)) 22)), (6, .int (nI (k + 1))), (5, .int rd), (4, .int rb), (0, .ref 0), (1, .int (nI n0))]) dX10_rolls_81 rfl (by decide) rfl ?_
      refine ez_aload_n (i := 0) dX10_rolls_82 rfl rfl ?_
      refine ez_getR dX10_rolls_83 flX10_37 (hF.lt (by decide)) (hF.kc (by decide) rfl) (hF.pt 25 rfl) ?_
      refine ez_getI dX10_rolls_86 flX10_208 (hF.lt (by decide)) (hF.kc (by decide) rfl) ?_
      refine ez_topE (y := (zhk T T.x (k + 1)) 22) (hK8.gs _ rfl).l ?_
      refine ez_iload (i := 4) dX10_rolls_89 rfl ?_
      refine ez_icmp_ge (tgt := 107) dX10_rolls_91 (by decide) (fun c11 => ?_) (fun c11 => ?_)
      · skip
        refine ez_iinc (v := (nI (k + 2))) (l' := [(6, .int ((nI (k + 2)))), (3, .int (nI (k + 1))), (2, .int ((zhk T T.x (k + 1)) 22)), (5, .int rd), (4, .int rb), (0, .ref 0), (1, .int (nI n0))]) dX10_rolls_107 rfl (nI_1 _) (by decide) rfl ?_
        refine ez_goto (tgt := 41) dX10_rolls_110 (by decide) ?_
        refine ez_sub (l' := [(6, .int ((nI (k + 2)))), (5, .int rd), (4, .int rb), (3, .int (nI (k + 1))), (2, .int ((zhk T T.x (k + 1)) 22)), (0, .ref 0), (1, .int (nI n0))]) [0, 3, 4, 1, 2, 5, 6] rfl ?_
        exact ez_eq (l2 := [(6, .int (nI (k + 1 + 1))), (5, .int rd), (4, .int rb), (3, .int (nI (k + 1))), (2, .int ((zhk T T.x (k + 1)) 22)), (0, .ref 0), (1, .int (nI n0))]) rfl rfl rfl rfl (ih (I5, La, (zhk T T.x (k + 1)) 22, rb, nI (k + 1), rd) ⟨hK8, (by rw [a_rolls, ← hac, b_rolls]; simp only [if_neg c9, if_pos (Int32.not_le.mp c9), if_pos c11, if_neg (Int32.not_lt.mpr c11)])⟩)
      · skip
        refine ez_aload_n (i := 0) dX10_rolls_94 rfl rfl ?_
        refine ez_getR dX10_rolls_95 flX10_37 (hF.lt (by decide)) (hF.kc (by decide) rfl) (hF.pt 25 rfl) ?_
        refine ez_getI dX10_rolls_98 flX10_208 (hF.lt (by decide)) (hF.kc (by decide) rfl) ?_
        refine ez_topE (y := (zhk T T.x (k + 1)) 22) (hK8.gs _ rfl).l ?_
        refine ez_istore (l' := [(4, .int ((zhk T T.x (k + 1)) 22)), (3, .int (nI (k + 1))), (2, .int ((zhk T T.x (k + 1)) 22)), (6, .int (nI (k + 1))), (5, .int rd), (0, .ref 0), (1, .int (nI n0))]) dX10_rolls_101 (by decide) rfl ?_
        refine ez_iload (i := 6) dX10_rolls_103 rfl ?_
        refine ez_istore (l' := [(5, .int (nI (k + 1))), (4, .int ((zhk T T.x (k + 1)) 22)), (3, .int (nI (k + 1))), (2, .int ((zhk T T.x (k + 1)) 22)), (6, .int (nI (k + 1))), (0, .ref 0), (1, .int (nI n0))]) dX10_rolls_105 (by decide) rfl ?_
        refine ez_iinc (v := (nI (k + 2))) (l' := [(6, .int ((nI (k + 2)))), (5, .int (nI (k + 1))), (4, .int ((zhk T T.x (k + 1)) 22)), (3, .int (nI (k + 1))), (2, .int ((zhk T T.x (k + 1)) 22)), (0, .ref 0), (1, .int (nI n0))]) dX10_rolls_107 rfl (nI_1 _) (by decide) rfl ?_
        refine ez_goto (tgt := 41) dX10_rolls_110 (by decide) ?_
        exact ez_eq (l2 := [(6, .int (nI (k + 1 + 1))), (5, .int (nI (k + 1))), (4, .int ((zhk T T.x (k + 1)) 22)), (3, .int (nI (k + 1))), (2, .int ((zhk T T.x (k + 1)) 22)), (0, .ref 0), (1, .int (nI n0))]) rfl rfl rfl rfl (ih (I5, La, (zhk T T.x (k + 1)) 22, (zhk T T.x (k + 1)) 22, nI (k + 1), nI (k + 1)) ⟨hK8, (by rw [a_rolls, ← hac, b_rolls]; simp only [if_neg c9, if_pos (Int32.not_le.mp c9), if_neg c11, if_pos (Int32.not_le.mp c11)])⟩)
  · rintro ⟨Ia, La, ra, rb, rc, rd⟩ ⟨hKl, hac⟩
    have hKl : zK n kd I L Rf I Ia La Rf T (some (zhk T T.x n0)) none false := hKl
    have hac : (ra, rb, rc, rd) = a_rolls T (n0 + 1) := hac
    show ez_P _ _ _ _ _ _ 41 [(6, .int (nI (n0 + 1))), (5, .int rd), (4, .int rb), (3, .int rc), (2, .int ra), (0, .ref 0), (1, .int (nI n0))] [] (n, sl, kd, Ia, La, Rf) _
    refine ez_iload (i := 6) dX10_rolls_41 rfl ?_
    refine ez_iload_n (i := 1) dX10_rolls_43 rfl rfl ?_
    refine ez_icmp_gt (tgt := 113) dX10_rolls_44 (by decide) (fun c12 => ?_) (fun c12 => absurd (nI_lt (by omega) (by omega)) c12)
    refine ez_aload_n (i := 0) dX10_rolls_113 rfl rfl ?_
    refine ez_getR dX10_rolls_114 flX10_19 (hF.lt (by decide)) (hF.kc (by decide) rfl) (hF.pt 3 rfl) ?_
    refine ez_iload_n (i := 3) dX10_rolls_117 rfl rfl ?_
    refine ez_bipush (v := 100) dX10_rolls_118 (by decide) ?_
    refine ez_iload (i := 4) dX10_rolls_120 rfl ?_
    refine ez_iadd dX10_rolls_122 ?_
    refine ez_iload (i := 5) dX10_rolls_123 rfl ?_
    refine ez_callV (M1 := mX4_tell__) (rest := []) dX10_rolls_125 mlX10_279 mvX4_tell__ rfl (hF.lt (by decide)) (hF.kc (by decide) rfl) (Nat.le_of_ble_eq_true rfl) rfl (y_X4_tell__ (I := Ia) (L := La) (d + 58) hF rc (100 + rb) rd) z_tok ?_
    rintro _ _ ⟨rfl, I13, L14, rfl, hr15, ho16⟩
    show ez_P _ _ _ _ _ _ 128 [(6, .int (nI (n0 + 1))), (5, .int rd), (4, .int rb), (3, .int rc), (2, .int ra), (0, .ref 0), (1, .int (nI n0))] [] (n, sl, kd, I13, L14, Rf) _
    have hK17 : zK n kd I L Rf I I13 L14 Rf (T.w_rw [rc.toInt64, (100 + rb).toInt64, rd.toInt64]) (some (zhk T T.x n0)) none false := by exact hKl.tell hr15 ho16
    refine ez_bipush (v := 100) dX10_rolls_128 (by decide) ?_
    refine ez_iload_n (i := 2) dX10_rolls_130 rfl rfl ?_
    refine ez_iadd dX10_rolls_131 ?_
    refine ez_iret dX10_rolls_132 rfl rfl ?_
    rw [show s_rolls T (nI n0) = (100 + ra, T.w_rw [rc.toInt64, (100 + rb).toInt64, rd.toInt64]) from by unfold s_rolls; rw [if_pos ⟨(z_n9 (N := 99) hn (by decide)).1, (z_n9 (N := 99) hn (by decide)).2⟩, nI_clamp (by omega), ← hac]]
    exact hK17.end
theorem c_rolls_no {n : Nat} {sl : Nat × Nat} {kd : Nat → Nat × Nat} {I : Nat → Nat → Int32} {L : Nat → Nat → Int64} {Rf : Nat → Nat → Option Nat} (d : Nat) {T : zT} {H : Nat} (hC : zC n kd I L Rf T) (hO : zOk H T) (hH : H ≤ 1000000000) {v : Int32} (hn : ¬ (0 ≤ v ∧ v ≤ 99)) (f : Nat) (B : Nat → Int32) : ez_Q (f + 100) B f (fun _ => True) mX10_rolls (d + 60) [.ref 0, .int v] (n, sl, kd, I, L, Rf) (zpC n sl kd I L Rf (some (.int (s_rolls T v).1)) (s_rolls T v).2) := by
  have hF := hC.F; have hc7 := hO.c
  have hK0 : zK n kd I L Rf I I L Rf T none none false := zK.start hC
  have hsp : s_rolls T v = ((-1), T) := (by unfold s_rolls; rw [if_neg hn])
  rw [hsp]
  refine ez_meth pn_X.2.2.2.2.2.2.2.2.2.2.1 (Nat.le_of_ble_eq_true rfl) ?_
  show ez_P _ _ _ _ _ _ 0 [(0, .ref 0), (1, .int v)] [] (n, sl, kd, I, L, Rf) _
  refine ez_iload_n (i := 1) dX10_rolls_0 rfl rfl ?_
  refine ez_iconst (v := 0) dX10_rolls_1 (by decide) ?_
  refine ez_bipush (v := 99) dX10_rolls_2 (by decide) ?_
  refine ez_callS (M1 := mX10_within) (rest := []) dX10_rolls_4 mlX10_158 msX10_within rfl (Nat.le_of_ble_eq_true rfl) rfl (zq_b0 hn (zq_b (q_X10_within (d + 59) v 0 99) (n, sl, kd, I, L, Rf))) eb_rok ?_
  rintro _ _ ⟨rfl, rfl⟩
  show ez_P _ _ _ _ _ _ 7 [(0, .ref 0), (1, .int v)] (.int 0 :: []) _ _
  refine ez_if_ne (tgt := 12) dX10_rolls_7 (by decide) (fun c1 => absurd c1 (by decide)) (fun c1 => ?_)
  refine ez_iconst (v := (-1)) dX10_rolls_10 (by decide) ?_
  refine ez_iret dX10_rolls_11 rfl rfl ?_
  exact hK0.end
theorem c_rolls {n : Nat} {sl : Nat × Nat} {kd : Nat → Nat × Nat} {I : Nat → Nat → Int32} {L : Nat → Nat → Int64} {Rf : Nat → Nat → Option Nat} (d : Nat) {T : zT} {H : Nat} (hC : zC n kd I L Rf T) (hO : zOk H T) (hH : H ≤ 1000000000) (v : Int32) (f : Nat) (B : Nat → Int32) : ez_Q (f + 100) B f (fun _ => True) mX10_rolls (d + 60) [.ref 0, .int v] (n, sl, kd, I, L, Rf) (zpC n sl kd I L Rf (some (.int (s_rolls T v).1)) (s_rolls T v).2) := by
  by_cases hn : 0 ≤ v ∧ v ≤ 99
  · obtain ⟨n0, _, hn0, rfl⟩ := z_pk1 (lo := 0) (N := 99) hn (by decide) (by decide)
    exact c_rolls_ok d hC hO hH hn0 f B
  · exact c_rolls_no d hC hO hH hn f B
theorem c_steady_ok {n : Nat} {sl : Nat × Nat} {kd : Nat → Nat × Nat} {I : Nat → Nat → Int32} {L : Nat → Nat → Int64} {Rf : Nat → Nat → Option Nat} (d : Nat) {T : zT} {H : Nat} (hC : zC n kd I L Rf T) (hO : zOk H T) (hH : H ≤ 1000000000) {n0 : Nat} (hn1 : 1 ≤ n0) (hn : n0 ≤ 99) {v : Int32} (hv : 0 ≤ v ∧ v ≤ 20) (f : Nat) (B : Nat → Int32) : ez_Q (f + 100) B f (fun _ => True) mX10_steady (d + 60) [.ref 0, .int (nI n0), .int v] (n, sl, kd, I, L, Rf) (zpC n sl kd I L Rf (some (.int (s_steady T (nI n0) v).1)) (s_steady T (nI n0) v).2) := by
  have hF := hC.F; have hc7 := hO.c
  have hK0 : zK n kd I L Rf I I L Rf T none none false := zK.start hC
  refine ez_meth pn_X.2.2.2.2.2.2.2.2.2.2.1 (Nat.le_of_ble_eq_true rfl) ?_
  show ez_P _ _ _ _ _ _ 0 [(0, .ref 0), (1, .int (nI n0)), (2, .int v)] [] (n, sl, kd, I, L, Rf) _
  refine ez_iload_n (i := 1) dX10_steady_0 rfl rfl ?_
  refine ez_iconst (v := 1) dX10_steady_1 (by decide) ?_
  refine ez_bipush (v := 99) dX10_steady_2 (by decide) ?_
  refine ez_callS (M1 := mX10_within) (rest := []) dX10_steady_4 mlX10_158 msX10_within rfl (Nat.le_of_ble_eq_true rfl) rfl (zq_b1 (z_n19 (N := 99) hn1 hn (by decide)) (zq_b (q_X10_within (d + 59) (nI n0) 1 99) (n, sl, kd, I, L, Rf))) eb_rok ?_
  rintro _ _ ⟨rfl, rfl⟩
  show ez_P _ _ _ _ _ _ 7 [(0, .ref 0), (1, .int (nI n0)), (2, .int v)] (.int 1 :: []) _ _
  refine ez_if_eq (tgt := 20) dX10_steady_7 (by decide) (fun c1 => absurd c1 (by decide)) (fun c1 => ?_)
  refine ez_iload_n (i := 2) dX10_steady_10 rfl rfl ?_
  refine ez_iconst (v := 0) dX10_steady_11 (by decide) ?_
  refine ez_bipush (v := 20) dX10_steady_12 (by decide) ?_
  refine ez_callS (M1 := mX10_within) (rest := []) dX10_steady_14 mlX10_158 msX10_within rfl (Nat.le_of_ble_eq_true rfl) rfl (zq_b1 hv (zq_b (q_X10_within (d + 59) v 0 20) (n, sl, kd, I, L, Rf))) eb_rok ?_
  rintro _ _ ⟨rfl, rfl⟩
  show ez_P _ _ _ _ _ _ 17 [(0, .ref 0), (1, .int (nI n0)), (2, .int v)] (.int 1 :: []) _ _
  refine ez_if_ne (tgt := 22) dX10_steady_17 (by decide) (fun c2 => ?_) (fun c2 => absurd (by decide) c2)
  refine ez_aload_n (i := 0) dX10_steady_22 rfl rfl ?_
  refine ez_callVm (M1 := mX10_lookAhead) (rest := []) dX10_steady_23 mlX10_282 mvX10_lookAhead rfl (hF.lt (by decide)) (hF.kc (by decide) rfl) (Nat.le_of_ble_eq_true rfl) rfl (k_look (T := T) (I := I) (L := L) (d + 39) hK0.C hO (f + 99) _) (eb_vok rfl) ?_
  rintro _ _ _ rfl ⟨rfl, rfl⟩
  refine ez_nmI (fun I3 hI3 => ?_)
  show ez_P _ _ _ _ _ _ 26 [(0, .ref 0), (1, .int (nI n0)), (2, .int v)] [] (n, sl, kd, I3, L, Rf) _
  have hK4 : zK n kd I L Rf I I3 L Rf T (some T.x) none false := by rw [hI3]; exact hK0.cpg
  refine ez_iconst (v := 0) dX10_steady_26 (by decide) ?_
  refine ez_istore_n (l' := [(3, .int 0), (0, .ref 0), (1, .int (nI n0)), (2, .int v)]) dX10_steady_27 rfl (by decide) rfl ?_
  refine ez_iconst (v := 0) dX10_steady_28 (by decide) ?_
  refine ez_istore (l' := [(4, .int 0), (3, .int 0), (0, .ref 0), (1, .int (nI n0)), (2, .int v)]) dX10_steady_29 (by decide) rfl ?_
  refine ez_iconst (v := 0) dX10_steady_31 (by decide) ?_
  refine ez_istore (l' := [(5, .int 0), (4, .int 0), (3, .int 0), (0, .ref 0), (1, .int (nI n0)), (2, .int v)]) dX10_steady_32 (by decide) rfl ?_
  refine ez_iconst (v := 1) dX10_steady_34 (by decide) ?_
  refine ez_istore (l' := [(6, .int 1), (5, .int 0), (4, .int 0), (3, .int 0), (0, .ref 0), (1, .int (nI n0)), (2, .int v)]) dX10_steady_35 (by decide) rfl ?_
  refine ez_eq (l2 := [(6, .int (nI (0 + 1))), (5, .int 0), (4, .int 0), (3, .int 0), (0, .ref 0), (1, .int (nI n0)), (2, .int v)]) (σ2 := (n, sl, kd, I3, L, Rf)) rfl rfl rfl rfl ?_
  refine ez_for n0 (fun k (a : (Nat → Nat → Int32) × (Nat → Nat → Int64) × Int32 × Int32 × Int32) => ([(6, .int (nI (k + 1))), (5, .int a.2.2.2.2), (4, .int a.2.2.2.1), (3, .int a.2.2.1), (0, .ref 0), (1, .int (nI n0)), (2, .int v)], (n, sl, kd, a.1, a.2.1, Rf))) (fun k a => zK n kd I L Rf I a.1 a.2.1 Rf T (some (zhk T T.x k)) none false ∧ (a.2.2.1, a.2.2.2.1, a.2.2.2.2) = a_steady T v k) ?_ ?_ n0 0 (I3, L, 0, 0, 0) (by omega) ⟨hK4, rfl⟩
  · rintro k ⟨Ia, La, sa, sb, sc⟩ hk ⟨hKl, hac⟩ ih
    have hKl : zK n kd I L Rf I Ia La Rf T (some (zhk T T.x k)) none false := hKl
    have hac : (sa, sb, sc) = a_steady T v k := hac
    show ez_P _ _ _ _ _ _ 37 [(6, .int (nI (k + 1))), (5, .int sc), (4, .int sb), (3, .int sa), (0, .ref 0), (1, .int (nI n0)), (2, .int v)] [] (n, sl, kd, Ia, La, Rf) _
    refine ez_iload (i := 6) dX10_steady_37 rfl ?_
    refine ez_iload_n (i := 1) dX10_steady_39 rfl rfl ?_
    refine ez_icmp_gt (tgt := 104) dX10_steady_40 (by decide) (fun c5 => absurd c5 (Int32.not_lt.mpr (nI_le (by omega) (by omega)))) (fun c5 => ?_)
    refine ez_aload_n (i := 0) dX10_steady_43 rfl rfl ?_
    refine ez_getR dX10_steady_44 flX10_26 (hF.lt (by decide)) (hF.kc (by decide) rfl) (hF.pt 4 rfl) ?_
    refine ez_aload_n (i := 0) dX10_steady_47 rfl rfl ?_
    refine ez_getR dX10_steady_48 flX10_37 (hF.lt (by decide)) (hF.kc (by decide) rfl) (hF.pt 25 rfl) ?_
    refine ez_iconst (v := 1) dX10_steady_51 (by decide) ?_
    refine ez_callVm (M1 := mX6_letHoursGo) (rest := []) dX10_steady_52 mlX10_195 mvX6_letHoursGo rfl (hF.lt (by decide)) (hF.kc (by decide) rfl) (Nat.le_of_ble_eq_true rfl) rfl (k_let (T := T) (I := Ia) (L := La) (d + 54) hKl.C hO (j := 25) (by decide) (hKl.gs _ rfl) (zhk_xr hO.x hO.wm.1 hO.wd hO.c k) (by omega) (N := 1) (by omega) (y := T.x) (zhk_crew k) (f + 99)) k_hp_ok ?_
    rintro _ _ _ rfl ⟨rfl, I6, rfl, hs7, hn8⟩
    show ez_P _ _ _ _ _ _ 55 [(6, .int (nI (k + 1))), (5, .int sc), (4, .int sb), (3, .int sa), (0, .ref 0), (1, .int (nI n0)), (2, .int v)] (.int (zhc T (zhk T T.x k) 1) :: []) (n, sl, kd, I6, La, Rf) _
    have hK9 : zK n kd I L Rf I I6 La Rf T (some (zhk T T.x (k + 1))) none false := by exact hKl.gu hs7 (fun c hc => hn8 c (by omega))
    refine ez_pop dX10_steady_55 rfl ?_
    refine ez_aload_n (i := 0) dX10_steady_56 rfl rfl ?_
    refine ez_getR dX10_steady_57 flX10_37 (hF.lt (by decide)) (hF.kc (by decide) rfl) (hF.pt 25 rfl) ?_
    refine ez_getI dX10_steady_60 flX10_208 (hF.lt (by decide)) (hF.kc (by decide) rfl) ?_
    refine ez_topE (y := (zhk T T.x (k + 1)) 22) (hK9.gs _ rfl).l ?_
    refine ez_abs dX10_steady_63 xmX10_287 (Nat.le_of_ble_eq_true rfl) ?_
    refine ez_topE (y := z_ab ((zhk T T.x (k + 1)) 22)) rfl ?_
    refine ez_iload_n (i := 2) dX10_steady_66 rfl rfl ?_
    refine ez_icmp_gt (tgt := 77) dX10_steady_67 (by decide) (fun c10 => ?_) (fun c10 => ?_)
    · skip
      refine ez_iconst (v := 0) dX10_steady_77 (by decide) ?_
      refine ez_istore (l' := [(5, .int 0), (6, .int (nI (k + 1))), (4, .int sb), (3, .int sa), (0, .ref 0), (1, .int (nI n0)), (2, .int v)]) dX10_steady_78 (by decide) rfl ?_
      refine ez_iload (i := 5) dX10_steady_80 rfl ?_
      refine ez_iload_n (i := 3) dX10_steady_82 rfl rfl ?_
      refine ez_icmp_le (tgt := 98) dX10_steady_83 (by decide) (fun c11 => ?_) (fun c11 => ?_)
      · skip
        refine ez_iinc (v := (nI (k + 2))) (l' := [(6, .int ((nI (k + 2)))), (5, .int 0), (4, .int sb), (3, .int sa), (0, .ref 0), (1, .int (nI n0)), (2, .int v)]) dX10_steady_98 rfl (nI_1 _) (by decide) rfl ?_
        refine ez_goto (tgt := 37) dX10_steady_101 (by decide) ?_
        exact ez_eq (l2 := [(6, .int (nI (k + 1 + 1))), (5, .int 0), (4, .int sb), (3, .int sa), (0, .ref 0), (1, .int (nI n0)), (2, .int v)]) rfl rfl rfl rfl (ih (I6, La, sa, sb, 0) ⟨hK9, (by rw [a_steady, ← hac, b_steady]; simp only [if_pos c10, if_neg (Int32.not_le.mpr c10), if_pos c11, if_neg (Int32.not_lt.mpr c11)])⟩)
      · skip
        refine ez_iload (i := 5) dX10_steady_86 rfl ?_
        refine ez_istore_n (l' := [(3, .int 0), (5, .int 0), (6, .int (nI (k + 1))), (4, .int sb), (0, .ref 0), (1, .int (nI n0)), (2, .int v)]) dX10_steady_88 rfl (by decide) rfl ?_
        refine ez_iload (i := 6) dX10_steady_89 rfl ?_
        refine ez_iload (i := 5) dX10_steady_91 rfl ?_
        refine ez_isub dX10_steady_93 ?_
        refine ez_iconst (v := 1) dX10_steady_94 (by decide) ?_
        refine ez_iadd dX10_steady_95 ?_
        refine ez_istore (l' := [(4, .int (((nI (k + 1)) - 0) + 1)), (3, .int 0), (5, .int 0), (6, .int (nI (k + 1))), (0, .ref 0), (1, .int (nI n0)), (2, .int v)]) dX10_steady_96 (by decide) rfl ?_
        refine ez_iinc (v := (nI (k + 2))) (l' := [(6, .int ((nI (k + 2)))), (4, .int (((nI (k + 1)) - 0) + 1)), (3, .int 0), (5, .int 0), (0, .ref 0), (1, .int (nI n0)), (2, .int v)]) dX10_steady_98 rfl (nI_1 _) (by decide) rfl ?_
        refine ez_goto (tgt := 37) dX10_steady_101 (by decide) ?_
        refine ez_sub (l' := [(6, .int ((nI (k + 2)))), (5, .int 0), (4, .int (((nI (k + 1)) - 0) + 1)), (3, .int 0), (0, .ref 0), (1, .int (nI n0)), (2, .int v)]) [0, 3, 1, 2, 4, 5, 6] rfl ?_
        exact ez_eq (l2 := [(6, .int (nI (k + 1 + 1))), (5, .int 0), (4, .int (((nI (k + 1)) - 0) + 1)), (3, .int 0), (0, .ref 0), (1, .int (nI n0)), (2, .int v)]) rfl rfl rfl rfl (ih (I6, La, 0, ((nI (k + 1)) - 0) + 1, 0) ⟨hK9, (by rw [a_steady, ← hac, b_steady]; simp only [if_pos c10, if_neg (Int32.not_le.mpr c10), if_neg c11, if_pos (Int32.not_le.mp c11)])⟩)
    · skip
      refine ez_iload (i := 5) dX10_steady_70 rfl ?_
      refine ez_iconst (v := 1) dX10_steady_72 (by decide) ?_
      refine ez_iadd dX10_steady_73 ?_
      refine ez_goto (tgt := 78) dX10_steady_74 (by decide) ?_
      refine ez_istore (l' := [(5, .int (sc + 1)), (6, .int (nI (k + 1))), (4, .int sb), (3, .int sa), (0, .ref 0), (1, .int (nI n0)), (2, .int v)]) dX10_steady_78 (by decide) rfl ?_
      refine ez_iload (i := 5) dX10_steady_80 rfl ?_
      refine ez_iload_n (i := 3) dX10_steady_82 rfl rfl ?_
      refine ez_icmp_le (tgt := 98) dX10_steady_83 (by decide) (fun c12 => ?_) (fun c12 => ?_)
      · skip
        refine ez_iinc (v := (nI (k + 2))) (l' := [(6, .int ((nI (k + 2)))), (5, .int (sc + 1)), (4, .int sb), (3, .int sa), (0, .ref 0), (1, .int (nI n0)), (2, .int v)]) dX10_steady_98 rfl (nI_1 _) (by decide) rfl ?_
        refine ez_goto (tgt := 37) dX10_steady_101 (by decide) ?_
        exact ez_eq (l2 := [(6, .int (nI (k + 1 + 1))), (5, .int (sc + 1)), (4, .int sb), (3, .int sa), (0, .ref 0), (1, .int (nI n0)), (2, .int v)]) rfl rfl rfl rfl (ih (I6, La, sa, sb, sc + 1) ⟨hK9, (by rw [a_steady, ← hac, b_steady]; simp only [if_neg c10, if_pos (Int32.not_lt.mp c10), if_pos c12, if_neg (Int32.not_lt.mpr c12)])⟩)
      · skip
        refine ez_iload (i := 5) dX10_steady_86 rfl ?_
        refine ez_istore_n (l' := [(3, .int (sc + 1)), (5, .int (sc + 1)), (6, .int (nI (k + 1))), (4, .int sb), (0, .ref 0), (1, .int (nI n0)), (2, .int v)]) dX10_steady_88 rfl (by decide) rfl ?_
        refine ez_iload (i := 6) dX10_steady_89 rfl ?_
        refine ez_iload (i := 5) dX10_steady_91 rfl ?_
        refine ez_isub dX10_steady_93 ?_
        refine ez_iconst (v := 1) dX10_steady_94 (by decide) ?_
        refine ez_iadd dX10_steady_95 ?_
        refine ez_istore (l' := [(4, .int (((nI (k + 1)) - (sc + 1)) + 1)), (3, .int (sc + 1)), (5, .int (sc + 1)), (6, .int (nI (k + 1))), (0, .ref 0), (1, .int (nI n0)), (2, .int v)]) dX10_steady_96 (by decide) rfl ?_
        refine ez_iinc (v := (nI (k + 2))) (l' := [(6, .int ((nI (k + 2)))), (4, .int (((nI (k + 1)) - (sc + 1)) + 1)), (3, .int (sc + 1)), (5, .int (sc + 1)), (0, .ref 0), (1, .int (nI n0)), (2, .int v)]) dX10_steady_98 rfl (nI_1 _) (by decide) rfl ?_
        refine ez_goto (tgt := 37) dX10_steady_101 (by decide) ?_
        refine ez_sub (l' := [(6, .int ((nI (k + 2)))), (5, .int (sc + 1)), (4, .int (((nI (k + 1)) - (sc + 1)) + 1)), (3, .int (sc + 1)), (0, .ref 0), (1, .int (nI n0)), (2, .int v)]) [0, 3, 1, 2, 4, 5, 6] rfl ?_
        exact ez_eq (l2 := [(6, .int (nI (k + 1 + 1))), (5, .int (sc + 1)), (4, .int (((nI (k + 1)) - (sc + 1)) + 1)), (3, .int (sc + 1)), (0, .ref 0), (1, .int (nI n0)), (2, .int v)]) rfl rfl rfl rfl (ih (I6, La, sc + 1, ((nI (k + 1)) - (sc + 1)) + 1, sc + 1) ⟨hK9, (by rw [a_steady, ← hac, b_steady]; simp only [if_neg c10, if_pos (Int32.not_lt.mp c10), if_neg c12, if_pos (Int32.not_le.mp c12)])⟩)
  · rintro ⟨Ia, La, sa, sb, sc⟩ ⟨hKl, hac⟩
    have hKl : zK n kd I L Rf I Ia La Rf T (some (zhk T T.x n0)) none false := hKl
    have hac : (sa, sb, sc) = a_steady T v n0 := hac
    show ez_P _ _ _ _ _ _ 37 [(6, .int (nI (n0 + 1))), (5, .int sc), (4, .int sb), (3, .int sa), (0, .ref 0), (1, .int (nI n0)), (2, .int v)] [] (n, sl, kd, Ia, La, Rf) _
    refine ez_iload (i := 6) dX10_steady_37 rfl ?_
    refine ez_iload_n (i := 1) dX10_steady_39 rfl rfl ?_
    refine ez_icmp_gt (tgt := 104) dX10_steady_40 (by decide) (fun c13 => ?_) (fun c13 => absurd (nI_lt (by omega) (by omega)) c13)
    refine ez_aload_n (i := 0) dX10_steady_104 rfl rfl ?_
    refine ez_getR dX10_steady_105 flX10_19 (hF.lt (by decide)) (hF.kc (by decide) rfl) (hF.pt 3 rfl) ?_
    refine ez_iload (i := 4) dX10_steady_108 rfl ?_
    refine ez_callV (M1 := mX4_tell) (rest := []) dX10_steady_110 mlX10_285 mvX4_tell rfl (hF.lt (by decide)) (hF.kc (by decide) rfl) (Nat.le_of_ble_eq_true rfl) rfl (y_X4_tell (I := Ia) (L := La) (d + 58) hF sb) z_tok ?_
    rintro _ _ ⟨rfl, I14, L15, rfl, hr16, ho17⟩
    show ez_P _ _ _ _ _ _ 113 [(6, .int (nI (n0 + 1))), (5, .int sc), (4, .int sb), (3, .int sa), (0, .ref 0), (1, .int (nI n0)), (2, .int v)] [] (n, sl, kd, I14, L15, Rf) _
    have hK18 : zK n kd I L Rf I I14 L15 Rf (T.w_rw [sb.toInt64]) (some (zhk T T.x n0)) none false := by exact hKl.tell hr16 ho17
    refine ez_iload_n (i := 3) dX10_steady_113 rfl rfl ?_
    refine ez_iret dX10_steady_114 rfl rfl ?_
    rw [show s_steady T (nI n0) v = (sa, T.w_rw [sb.toInt64]) from by unfold s_steady; rw [if_pos ⟨z_n19 (N := 99) hn1 hn (by decide), hv⟩, nI_clamp (by omega), ← hac]]
    exact hK18.end
theorem c_steady_no {n : Nat} {sl : Nat × Nat} {kd : Nat → Nat × Nat} {I : Nat → Nat → Int32} {L : Nat → Nat → Int64} {Rf : Nat → Nat → Option Nat} (d : Nat) {T : zT} {H : Nat} (hC : zC n kd I L Rf T) (hO : zOk H T) (hH : H ≤ 1000000000) {n1 v : Int32} (hn : ¬ (1 ≤ n1 ∧ n1 ≤ 99)) (f : Nat) (B : Nat → Int32) : ez_Q (f + 100) B f (fun _ => True) mX10_steady (d + 60) [.ref 0, .int n1, .int v] (n, sl, kd, I, L, Rf) (zpC n sl kd I L Rf (some (.int (s_steady T n1 v).1)) (s_steady T n1 v).2) := by
  have hF := hC.F; have hc7 := hO.c
  have hK0 : zK n kd I L Rf I I L Rf T none none false := zK.start hC
  have hsp : s_steady T n1 v = ((-1), T) := (by unfold s_steady; rw [if_neg (fun e => hn e.1)])
  rw [hsp]
  refine ez_meth pn_X.2.2.2.2.2.2.2.2.2.2.1 (Nat.le_of_ble_eq_true rfl) ?_
  show ez_P _ _ _ _ _ _ 0 [(0, .ref 0), (1, .int n1), (2, .int v)] [] (n, sl, kd, I, L, Rf) _
  refine ez_iload_n (i := 1) dX10_steady_0 rfl rfl ?_
  refine ez_iconst (v := 1) dX10_steady_1 (by decide) ?_
  refine ez_bipush (v := 99) dX10_steady_2 (by decide) ?_
  refine ez_callS (M1 := mX10_within) (rest := []) dX10_steady_4 mlX10_158 msX10_within rfl (Nat.le_of_ble_eq_true rfl) rfl (zq_b0 hn (zq_b (q_X10_within (d + 59) n1 1 99) (n, sl, kd, I, L, Rf))) eb_rok ?_
  rintro _ _ ⟨rfl, rfl⟩
  show ez_P _ _ _ _ _ _ 7 [(0, .ref 0), (1, .int n1), (2, .int v)] (.int 0 :: []) _ _
  refine ez_if_eq (tgt := 20) dX10_steady_7 (by decide) (fun c1 => ?_) (fun c1 => absurd (by decide) c1)
  refine ez_iconst (v := (-1)) dX10_steady_20 (by decide) ?_
  refine ez_iret dX10_steady_21 rfl rfl ?_
  exact hK0.end
theorem c_steady_nx {n : Nat} {sl : Nat × Nat} {kd : Nat → Nat × Nat} {I : Nat → Nat → Int32} {L : Nat → Nat → Int64} {Rf : Nat → Nat → Option Nat} (d : Nat) {T : zT} {H : Nat} (hC : zC n kd I L Rf T) (hO : zOk H T) (hH : H ≤ 1000000000) {n1 v : Int32} (hn1 : 1 ≤ n1 ∧ n1 ≤ 99) (hn : ¬ (0 ≤ v ∧ v ≤ 20)) (f : Nat) (B : Nat → Int32) : ez_Q (f + 100) B f (fun _ => True) mX10_steady (d + 60) [.ref 0, .int n1, .int v] (n, sl, kd, I, L, Rf) (zpC n sl kd I L Rf (some (.int (s_steady T n1 v).1)) (s_steady T n1 v).2) := by
  have hF := hC.F; have hc7 := hO.c
  have hK0 : zK n kd I L Rf I I L Rf T none none false := zK.start hC
  have hsp : s_steady T n1 v = ((-1), T) := (by unfold s_steady; rw [if_neg (fun e => hn e.2)])
  rw [hsp]
  refine ez_meth pn_X.2.2.2.2.2.2.2.2.2.2.1 (Nat.le_of_ble_eq_true rfl) ?_
  show ez_P _ _ _ _ _ _ 0 [(0, .ref 0), (1, .int n1), (2, .int v)] [] (n, sl, kd, I, L, Rf) _
  refine ez_iload_n (i := 1) dX10_steady_0 rfl rfl ?_
  refine ez_iconst (v := 1) dX10_steady_1 (by decide) ?_
  refine ez_bipush (v := 99) dX10_steady_2 (by decide) ?_
  refine ez_callS (M1 := mX10_within) (rest := []) dX10_steady_4 mlX10_158 msX10_within rfl (Nat.le_of_ble_eq_true rfl) rfl (zq_b1 hn1 (zq_b (q_X10_within (d + 59) n1 1 99) (n, sl, kd, I, L, Rf))) eb_rok ?_
  rintro _ _ ⟨rfl, rfl⟩
  show ez_P _ _ _ _ _ _ 7 [(0, .ref 0), (1, .int n1), (2, .int v)] (.int 1 :: []) _ _
  refine ez_if_eq (tgt := 20) dX10_steady_7 (by decide) (fun c1 => absurd c1 (by decide)) (fun c1 => ?_)
  refine ez_iload_n (i := 2) dX10_steady_10 rfl rfl ?_
  refine ez_iconst (v := 0) dX10_steady_11 (by decide) ?_
  refine ez_bipush (v := 20) dX10_steady_12 (by decide) ?_
  refine ez_callS (M1 := mX10_within) (rest := []) dX10_steady_14 mlX10_158 msX10_within rfl (Nat.le_of_ble_eq_true rfl) rfl (zq_b0 hn (zq_b (q_X10_within (d + 59) v 0 20) (n, sl, kd, I, L, Rf))) eb_rok ?_
  rintro _ _ ⟨rfl, rfl⟩
  show ez_P _ _ _ _ _ _ 17 [(0, .ref 0), (1, .int n1), (2, .int v)] (.int 0 :: []) _ _
  refine ez_if_ne (tgt := 22) dX10_steady_17 (by decide) (fun c2 => absurd c2 (by decide)) (fun c2 => ?_)
  refine ez_iconst (v := (-1)) dX10_steady_20 (by decide) ?_
  refine ez_iret dX10_steady_21 rfl rfl ?_
  exact hK0.end
theorem c_steady {n : Nat} {sl : Nat × Nat} {kd : Nat → Nat × Nat} {I : Nat → Nat → Int32} {L : Nat → Nat → Int64} {Rf : Nat → Nat → Option Nat} (d : Nat) {T : zT} {H : Nat} (hC : zC n kd I L Rf T) (hO : zOk H T) (hH : H ≤ 1000000000) (n1 v : Int32) (f : Nat) (B : Nat → Int32) : ez_Q (f + 100) B f (fun _ => True) mX10_steady (d + 60) [.ref 0, .int n1, .int v] (n, sl, kd, I, L, Rf) (zpC n sl kd I L Rf (some (.int (s_steady T n1 v).1)) (s_steady T n1 v).2) := by
  by_cases hn : 1 ≤ n1 ∧ n1 ≤ 99
  · by_cases hv : 0 ≤ v ∧ v ≤ 20
    · obtain ⟨n0, h1, hn0, rfl⟩ := z_pk1 (lo := 1) (N := 99) hn (by decide) (by decide)
      exact c_steady_ok d hC hO hH h1 hn0 hv f B
    · exact c_steady_nx d hC hO hH hn hv f B
  · exact c_steady_no d hC hO hH hn f B
