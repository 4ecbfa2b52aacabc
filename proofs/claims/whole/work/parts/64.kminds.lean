/-! the class: minds, looks, fits, asks -/
def zpKg (n : Nat) (sl : Nat × Nat) (kd : Nat → Nat × Nat) (I0 : Nat → Nat → Int32) (L0 : Nat → Nat → Int64) (R0 : Nat → Nat → Option Nat) (L : Nat → Nat → Int64) (Rf : Nat → Nat → Option Nat) (T : zT) (G Bf : Option (Nat → Int32)) (w : Bool) (v : Option Value) (P : (Nat → Nat → Int32) → Prop) : Option Value → eb_S → Prop := fun r τ => r = v ∧ ∃ I1 g1, τ = (n, sl, kd, I1, L, Rf) ∧ zK n kd I0 L0 R0 g1 I1 L Rf T G Bf w ∧ P g1
theorem zpKg_ok {n : Nat} {sl : Nat × Nat} {kd : Nat → Nat × Nat} {I0 : Nat → Nat → Int32} {L0 L : Nat → Nat → Int64} {R0 Rf : Nat → Nat → Option Nat} {T : zT} {G Bf : Option (Nat → Int32)} {w : Bool} {v : Option Value} {P : (Nat → Nat → Int32) → Prop} {l : List (Nat × Value)} {rest : List Value} : ∀ r1 σ1, zpKg n sl kd I0 L0 R0 L Rf T G Bf w v P r1 σ1 → σ1.1 = n ∨ ((∀ q ∈ l, eb_okv n q.2) ∧ ∀ v ∈ rest, eb_okv n v) := fun _ _ h => Or.inl (by obtain ⟨_, I1, g1, h, _⟩ := h; rw [h])
def zas (T : zT) (v : Int32) : Prop := ∀ k, k < T.sn.length → z_pull v (zsn T k).1 (zsn T k).2.1 = (zsn T k).2.2
theorem a_tis_z {T : zT} {y : Nat → Int32} {t : Nat} : ∀ n, (a_tis T y t n = 0 ↔ ¬ ∀ k, k < n → z_pull (y t) (zsn T k).1 (zsn T k).2.1 = (zsn T k).2.2) := by
  intro n
  induction n with
  | zero => exact ⟨fun h => absurd h (by show ¬ (1 : Int32) = 0; decide), fun h => absurd (fun k hk => absurd hk (Nat.not_lt_zero k)) h⟩
  | succ n ih =>
    rw [a_tis, b_tis]
    by_cases h : a_tis T y t n = 0
    · rw [if_pos h]; exact ⟨fun _ g => ih.mp h (fun k hk => g k (by omega)), fun _ => rfl⟩
    · rw [if_neg h]
      have h2 := Classical.not_not.mp (fun g => h (ih.mpr g))
      by_cases e : z_pull (y t) (zsn T n).1 (zsn T n).2.1 = (zsn T n).2.2
      · rw [if_pos e]
        refine ⟨fun g => absurd g (by decide), fun g => absurd (fun k hk => ?_) g⟩
        by_cases ek : k = n
        · rw [ek]; exact e
        · exact h2 k (by omega)
      · rw [if_neg e]; exact ⟨fun _ g => e (g n (by omega)), fun _ => rfl⟩
theorem k_ias {n : Nat} {sl : Nat × Nat} {kd : Nat → Nat × Nat} {I : Nat → Nat → Int32} {L : Nat → Nat → Int64} {Rf : Nat → Nat → Option Nat} (d : Nat) {T : zT} {H : Nat} {I0 g : Nat → Nat → Int32} {L0 : Nat → Nat → Int64} {R0 : Nat → Nat → Option Nat} {G Bf : Option (Nat → Int32)} {w : Bool} (hK : zK n kd I0 L0 R0 g I L Rf T G Bf w) (hO : zOk H T) (hH : H ≤ 1000000000) (v : Int32) : zq mX10_isAsSeen (d + 20) [.ref 0, .int v] (n, sl, kd, I, L, Rf) (eb_b (zas T v) (n, sl, kd, I, L, Rf)) := by
  have hC := hK.C; have hF := hC.F; have hc7 := hO.c
  intro f B
  refine ez_meth pn_X.2.2.2.2.2.2.2.2.2.2.1 (Nat.le_of_ble_eq_true rfl) ?_
  show ez_P _ _ _ _ _ _ 0 [(0, .ref 0), (1, .int v)] [] (n, sl, kd, I, L, Rf) _
  refine ez_iconst (v := 0) dX10_isAsSeen_0 (by decide) ?_
  refine ez_istore_n (l' := [(2, .int 0), (0, .ref 0), (1, .int v)]) dX10_isAsSeen_1 rfl (by decide) rfl ?_
  refine ez_eq (l2 := [(2, .int (nI 0)), (0, .ref 0), (1, .int v)]) (σ2 := (n, sl, kd, I, L, Rf)) rfl rfl rfl rfl ?_
  refine ez_for T.sn.length (fun k (a : Unit) => ([(2, .int (nI k)), (0, .ref 0), (1, .int v)], (n, sl, kd, I, L, Rf))) (fun k a => ∀ q, q < k → z_pull v (zsn T q).1 (zsn T q).2.1 = (zsn T q).2.2) ?_ ?_ T.sn.length 0 () (by omega) (fun q hq => absurd hq (Nat.not_lt_zero q))
  · rintro k _ hk hin ih
    have hin : ∀ q, q < k → z_pull v (zsn T q).1 (zsn T q).2.1 = (zsn T q).2.2 := hin
    show ez_P _ _ _ _ _ _ 2 [(2, .int (nI k)), (0, .ref 0), (1, .int v)] [] (n, sl, kd, I, L, Rf) _
    refine ez_iload_n (i := 2) dX10_isAsSeen_2 rfl rfl ?_
    refine ez_aload_n (i := 0) dX10_isAsSeen_3 rfl rfl ?_
    refine ez_getR dX10_isAsSeen_4 flX10_63 (hF.lt (by decide)) (hF.kc (by decide) rfl) (hF.pt 90 rfl) ?_
    refine ez_getI dX10_isAsSeen_7 flX10_351 (hF.lt (by decide)) (hF.kc (by decide) rfl) ?_
    refine ez_topE (y := nI T.sn.length) hK.C.sn.1 ?_
    refine ez_icmp_ge (tgt := 55) dX10_isAsSeen_10 (by decide) (fun c1 => absurd c1 (nI_ge hk (by have := hO.snl; omega))) (fun c1 => ?_)
    refine ez_iload_n (i := 1) dX10_isAsSeen_13 rfl rfl ?_
    refine ez_aload_n (i := 0) dX10_isAsSeen_14 rfl rfl ?_
    refine ez_getR dX10_isAsSeen_15 flX10_63 (hF.lt (by decide)) (hF.kc (by decide) rfl) (hF.pt 90 rfl) ?_
    refine ez_getR dX10_isAsSeen_18 flX10_363 (hF.lt (by decide)) (hF.kc (by decide) rfl) (hF.pt 91 rfl) ?_
    refine ez_iload_n (i := 2) dX10_isAsSeen_21 rfl rfl ?_
    refine ez_iaN (k := k) dX10_isAsSeen_22 (hF.lt (by decide)) (hF.ka (by decide) rfl) (by have := hO.snl; omega) (by decide) ?_
    refine ez_topE (y := (zsn T k).1) (hK.C.sn.2 _ _ (zsn_at (by omega))).1 ?_
    refine ez_aload_n (i := 0) dX10_isAsSeen_23 rfl rfl ?_
    refine ez_getR dX10_isAsSeen_24 flX10_63 (hF.lt (by decide)) (hF.kc (by decide) rfl) (hF.pt 90 rfl) ?_
    refine ez_getR dX10_isAsSeen_27 flX10_366 (hF.lt (by decide)) (hF.kc (by decide) rfl) (hF.pt 92 rfl) ?_
    refine ez_iload_n (i := 2) dX10_isAsSeen_30 rfl rfl ?_
    refine ez_iaN (k := k) dX10_isAsSeen_31 (hF.lt (by decide)) (hF.ka (by decide) rfl) (by have := hO.snl; omega) (by decide) ?_
    refine ez_topE (y := (zsn T k).2.1) (hK.C.sn.2 _ _ (zsn_at (by omega))).2.1 ?_
    refine ez_callS (M1 := mX10_pullOf) (rest := []) dX10_isAsSeen_32 mlX10_275 msX10_pullOf rfl (Nat.le_of_ble_eq_true rfl) rfl (zq_r (q_X10_pullOf (d + 18) v ((zsn T k).1) ((zsn T k).2.1)) (n, sl, kd, I, L, Rf)) eb_rok ?_
    rintro _ _ ⟨rfl, rfl⟩
    show ez_P _ _ _ _ _ _ 35 [(2, .int (nI k)), (0, .ref 0), (1, .int v)] (.int (z_pull v ((zsn T k).1) ((zsn T k).2.1)) :: []) _ _
    refine ez_aload_n (i := 0) dX10_isAsSeen_35 rfl rfl ?_
    refine ez_getR dX10_isAsSeen_36 flX10_63 (hF.lt (by decide)) (hF.kc (by decide) rfl) (hF.pt 90 rfl) ?_
    refine ez_getR dX10_isAsSeen_39 flX10_369 (hF.lt (by decide)) (hF.kc (by decide) rfl) (hF.pt 93 rfl) ?_
    refine ez_iload_n (i := 2) dX10_isAsSeen_42 rfl rfl ?_
    refine ez_iaN (k := k) dX10_isAsSeen_43 (hF.lt (by decide)) (hF.ka (by decide) rfl) (by have := hO.snl; omega) (by decide) ?_
    refine ez_topE (y := (zsn T k).2.2) (hK.C.sn.2 _ _ (zsn_at (by omega))).2.2 ?_
    refine ez_icmp_eq (tgt := 49) dX10_isAsSeen_44 (by decide) (fun c2 => ?_) (fun c2 => ?_)
    · skip
      refine ez_iinc (v := (nI (k + 1))) (l' := [(2, .int ((nI (k + 1)))), (0, .ref 0), (1, .int v)]) dX10_isAsSeen_49 rfl (nI_1 _) (by decide) rfl ?_
      refine ez_goto (tgt := 2) dX10_isAsSeen_52 (by decide) ?_
      exact ez_eq (l2 := [(2, .int (nI (k + 1))), (0, .ref 0), (1, .int v)]) rfl rfl rfl rfl (ih () (fun q hq => by by_cases e : q = k; rw [e]; exact c2; exact hin q (by omega)))
    · skip
      refine ez_iconst (v := 0) dX10_isAsSeen_47 (by decide) ?_
      refine ez_iret dX10_isAsSeen_48 rfl (by decide) ?_
      exact ⟨rfl, Or.inr ⟨fun g => c2 (g k hk), rfl⟩⟩
  · rintro _ hin
    have hin : ∀ q, q < T.sn.length → z_pull v (zsn T q).1 (zsn T q).2.1 = (zsn T q).2.2 := hin
    show ez_P _ _ _ _ _ _ 2 [(2, .int (nI T.sn.length)), (0, .ref 0), (1, .int v)] [] (n, sl, kd, I, L, Rf) _
    refine ez_iload_n (i := 2) dX10_isAsSeen_2 rfl rfl ?_
    refine ez_aload_n (i := 0) dX10_isAsSeen_3 rfl rfl ?_
    refine ez_getR dX10_isAsSeen_4 flX10_63 (hF.lt (by decide)) (hF.kc (by decide) rfl) (hF.pt 90 rfl) ?_
    refine ez_getI dX10_isAsSeen_7 flX10_351 (hF.lt (by decide)) (hF.kc (by decide) rfl) ?_
    refine ez_topE (y := nI T.sn.length) hK.C.sn.1 ?_
    refine ez_icmp_ge (tgt := 55) dX10_isAsSeen_10 (by decide) (fun c3 => ?_) (fun c3 => absurd (nI_le (Nat.le_refl _) (by have := hO.snl; omega)) c3)
    refine ez_iconst (v := 1) dX10_isAsSeen_55 (by decide) ?_
    refine ez_iret dX10_isAsSeen_56 rfl (by decide) ?_
    exact ⟨rfl, Or.inl ⟨hin, rfl⟩⟩
theorem k_tle {n : Nat} {sl : Nat × Nat} {kd : Nat → Nat × Nat} {I : Nat → Nat → Int32} {L : Nat → Nat → Int64} {Rf : Nat → Nat → Option Nat} (d : Nat) {T : zT} {H : Nat} {I0 g : Nat → Nat → Int32} {L0 : Nat → Nat → Int64} {R0 : Nat → Nat → Option Nat} {G Bf : Option (Nat → Int32)} {w : Bool} (hK : zK n kd I0 L0 R0 g I L Rf T G Bf w) (hO : zOk H T) (hH : H ≤ 1000000000) {b0 : Nat} (hb : b0 < T.c) (f : Nat) (B : Nat → Int32) : ez_Q (f + 6) B f (fun _ => True) mX10_thoughtsLeft (d + 30) [.ref 0, .int (nI b0)] (n, sl, kd, I, L, Rf) (zpKg n sl kd I0 L0 R0 L Rf T none Bf w (some (.int (a_thk T (zsd T b0) 6))) (fun g1 => ∀ t, t < 6 → g1 109 t = zsd T b0 t)) := by
  have hC := hK.C; have hF := hC.F; have hc7 := hO.c
  refine ez_meth pn_X.2.2.2.2.2.2.2.2.2.2.1 (Nat.le_of_ble_eq_true rfl) ?_
  show ez_P _ _ _ _ _ _ 0 [(0, .ref 0), (1, .int (nI b0))] [] (n, sl, kd, I, L, Rf) _
  refine ez_aload_n (i := 0) dX10_thoughtsLeft_0 rfl rfl ?_
  refine ez_getR dX10_thoughtsLeft_1 flX10_37 (hF.lt (by decide)) (hF.kc (by decide) rfl) (hF.pt 25 rfl) ?_
  refine ez_aload_n (i := 0) dX10_thoughtsLeft_4 rfl rfl ?_
  refine ez_getR dX10_thoughtsLeft_5 flX10_33 (hF.lt (by decide)) (hF.kc (by decide) rfl) (hF.pt 21 rfl) ?_
  refine ez_callV (M1 := mX7_copy) (rest := []) dX10_thoughtsLeft_8 mlX10_188 mvX7_copy rfl (hF.lt (by decide)) (hF.kc (by decide) rfl) (Nat.le_of_ble_eq_true rfl) rfl (y_X7_copy (I := I) (L := L) (d + 29) (i := 25) (j := 21) (hF.shp (by decide)) (by decide) (hF.shp (by decide)) (by decide) (by decide) hK.C.sh.cr hO.c) (eb_vok rfl) ?_
  rintro _ _ ⟨rfl, rfl⟩
  refine ez_nmI (fun I1 hI1 => ?_)
  show ez_P _ _ _ _ _ _ 11 [(0, .ref 0), (1, .int (nI b0))] [] (n, sl, kd, I1, L, Rf) _
  have hK2 : zK n kd I0 L0 R0 g I1 L Rf T (some T.x) Bf w := by rw [hI1]; exact hK.cpg
  refine ez_iconst (v := 0) dX10_thoughtsLeft_11 (by decide) ?_
  refine ez_istore_n (l' := [(2, .int 0), (0, .ref 0), (1, .int (nI b0))]) dX10_thoughtsLeft_12 rfl (by decide) rfl ?_
  refine ez_iconst (v := 0) dX10_thoughtsLeft_13 (by decide) ?_
  refine ez_istore_n (l' := [(3, .int 0), (2, .int 0), (0, .ref 0), (1, .int (nI b0))]) dX10_thoughtsLeft_14 rfl (by decide) rfl ?_
  have hK3 : zK n kd I0 L0 R0 g I1 L Rf T (some (zup T.x (7 + b0) (T.x (7 + b0)))) Bf w := by rw [show zup T.x (7 + b0) (T.x (7 + b0)) = T.x from zup_id]; exact hK2
  refine ez_le (f' := f + (6 - 0)) (by omega) ?_
  refine ez_eq (l2 := [(3, .int (nI 0)), (2, .int 0), (0, .ref 0), (1, .int (nI b0))]) (σ2 := (n, sl, kd, I1, L, Rf)) rfl rfl rfl rfl ?_
  refine ez_forB 6 (fun k => f + (6 - k)) (fun k (a : (Nat → Nat → Int32) × Int32 × Int32 × (Nat → Nat → Int32)) => ([(3, .int (nI k)), (2, .int a.2.1), (0, .ref 0), (1, .int (nI b0))], (n, sl, kd, a.1, L, Rf))) (fun k _ a => zK n kd I0 L0 R0 a.2.2.2 a.1 L Rf T (some (zup T.x (7 + b0) a.2.2.1)) Bf w ∧ a.2.1 = a_thk T (zsd T b0) k ∧ ∀ t, t < k → a.2.2.2 109 t = zsd T b0 t) ?_ ?_ 6 0 _ (I1, 0, T.x (7 + b0), g) (by omega) ⟨hK3, rfl, (fun t ht => absurd ht (Nat.not_lt_zero t))⟩
  · rintro k Bm ⟨Ia, bi, pl, gg⟩ hk ⟨hKl, hac, hex⟩ ih
    have hKl : zK n kd I0 L0 R0 gg Ia L Rf T (some (zup T.x (7 + b0) pl)) Bf w := hKl
    have hac : bi = a_thk T (zsd T b0) k := hac
    have hex : ∀ t, t < k → gg 109 t = zsd T b0 t := hex
    refine ez_le (f' := f + (6 - (k + 1)) + 1) (by omega) ?_
    show ez_P _ _ _ _ _ _ 15 [(3, .int (nI k)), (2, .int bi), (0, .ref 0), (1, .int (nI b0))] [] (n, sl, kd, Ia, L, Rf) _
    refine ez_iload_n (i := 3) dX10_thoughtsLeft_15 rfl rfl ?_
    refine ez_bipush (v := 6) dX10_thoughtsLeft_16 (by decide) ?_
    refine ez_icmp_ge (tgt := 77) dX10_thoughtsLeft_18 (by decide) (fun c4 => absurd c4 (nI_ge (b := 6) hk (by decide))) (fun c4 => ?_)
    refine ez_aload_n (i := 0) dX10_thoughtsLeft_21 rfl rfl ?_
    refine ez_getR dX10_thoughtsLeft_22 flX10_37 (hF.lt (by decide)) (hF.kc (by decide) rfl) (hF.pt 25 rfl) ?_
    refine ez_getR dX10_thoughtsLeft_25 flX10_168 (hF.lt (by decide)) (hF.kc (by decide) rfl) (hF.pt 23 rfl) ?_
    refine ez_iload_n (i := 1) dX10_thoughtsLeft_28 rfl rfl ?_
    refine ez_iload_n (i := 3) dX10_thoughtsLeft_29 rfl rfl ?_
    refine ez_isN (k := b0) dX10_thoughtsLeft_30 (hF.lt (by decide)) (hF.lx (by decide)) (hF.ka (by decide) rfl) (by omega) (by decide) ?_
    refine ez_nmI (fun I5 hI5 => ?_)
    have hK6 : zK n kd I0 L0 R0 gg I5 L Rf T (some (zup (zup T.x (7 + b0) pl) (7 + b0) (nI k))) Bf w := by rw [hI5]; exact hKl.tho hc7 (by omega)
    have hK7 : zK n kd I0 L0 R0 gg I5 L Rf T (some (zup T.x (7 + b0) (nI k))) Bf w := by rw [show zup T.x (7 + b0) (nI k) = zup (zup T.x (7 + b0) pl) (7 + b0) (nI k) from zup_zup.symm]; exact hK6
    refine ez_aload_n (i := 0) dX10_thoughtsLeft_31 rfl rfl ?_
    refine ez_getR dX10_thoughtsLeft_32 flX10_95 (hF.lt (by decide)) (hF.kc (by decide) rfl) (hF.pt 104 rfl) ?_
    refine ez_iload_n (i := 3) dX10_thoughtsLeft_35 rfl rfl ?_
    refine ez_aload_n (i := 0) dX10_thoughtsLeft_36 rfl rfl ?_
    refine ez_getR dX10_thoughtsLeft_37 flX10_26 (hF.lt (by decide)) (hF.kc (by decide) rfl) (hF.pt 4 rfl) ?_
    refine ez_aload_n (i := 0) dX10_thoughtsLeft_40 rfl rfl ?_
    refine ez_getR dX10_thoughtsLeft_41 flX10_37 (hF.lt (by decide)) (hF.kc (by decide) rfl) (hF.pt 25 rfl) ?_
    refine ez_callVm (M1 := mX6_ballast) (rest := [.int (nI k), .ref 109]) dX10_thoughtsLeft_44 mlX10_290 mvX6_ballast rfl (hF.lt (by decide)) (hF.kc (by decide) rfl) (Nat.le_of_ble_eq_true rfl) rfl (k_ballast (T := T) (I := I5) (L := L) (d + 24) hK7.C hO (j := 25) (by decide) (hK7.gs _ rfl) (hO.x.tho hO.c (b := b0) (by omega) ⟨k, by omega, rfl⟩) (by omega) (f + (6 - (k + 1))) _) eb_rok ?_
    rintro _ _ C8 _ ⟨rfl, rfl⟩
    show ez_P _ _ _ _ _ _ 47 [(3, .int (nI k)), (2, .int bi), (0, .ref 0), (1, .int (nI b0))] (.int (zst T (zup T.x (7 + b0) (nI k))) :: [.int (nI k), .ref 109]) (n, sl, kd, I5, L, Rf) _
    refine ez_isN (k := k) dX10_thoughtsLeft_47 (hF.lt (by decide)) (hF.lx (by decide)) (hF.ka (by decide) rfl) (by omega) (by decide) ?_
    refine ez_nmI (fun I9 hI9 => ?_)
    have hK10 : zK n kd I0 L0 R0 (z_set gg 109 k (zst T (zup T.x (7 + b0) (nI k)))) I9 L Rf T (some (zup T.x (7 + b0) (nI k))) Bf w := by rw [hI9]; exact hK7.gset (by unfold zgk; omega)
    refine ez_iload_n (i := 2) dX10_thoughtsLeft_48 rfl rfl ?_
    refine ez_aload_n (i := 0) dX10_thoughtsLeft_49 rfl rfl ?_
    refine ez_aload_n (i := 0) dX10_thoughtsLeft_50 rfl rfl ?_
    refine ez_getR dX10_thoughtsLeft_51 flX10_95 (hF.lt (by decide)) (hF.kc (by decide) rfl) (hF.pt 104 rfl) ?_
    refine ez_iload_n (i := 3) dX10_thoughtsLeft_54 rfl rfl ?_
    refine ez_iaN (k := k) dX10_thoughtsLeft_55 (hF.lt (by decide)) (hF.ka (by decide) rfl) (by omega) (by decide) ?_
    refine ez_topE (y := zsd T b0 k) ((congrFun (hK10.g 109 (by unfold zgk; omega)) _).trans z_set_at) ?_
    refine ez_callV (M1 := mX10_isAsSeen) (rest := [.int bi]) dX10_thoughtsLeft_56 mlX10_360 mvX10_isAsSeen rfl (hF.lt (by decide)) (hF.kc (by decide) rfl) (Nat.le_of_ble_eq_true rfl) rfl (k_ias (T := T) (I := I9) (L := L) (d + 9) hK10 hO hH (zsd T b0 k)) eb_bok ?_
    rintro _ _ ⟨rfl, ⟨b11, rfl⟩ | ⟨b11, rfl⟩⟩
    · show ez_P _ _ _ _ _ _ 59 [(3, .int (nI k)), (2, .int bi), (0, .ref 0), (1, .int (nI b0))] (.int 1 :: [.int bi]) _ _
      refine ez_if_eq (tgt := 68) dX10_thoughtsLeft_59 (by decide) (fun c12 => absurd c12 (by decide)) (fun c12 => ?_)
      refine ez_iconst (v := 1) dX10_thoughtsLeft_62 (by decide) ?_
      refine ez_iload_n (i := 3) dX10_thoughtsLeft_63 rfl rfl ?_
      refine ez_ishl dX10_thoughtsLeft_64 ?_
      refine ez_goto (tgt := 69) dX10_thoughtsLeft_65 (by decide) ?_
      refine ez_ior dX10_thoughtsLeft_69 ?_
      refine ez_istore_n (l' := [(2, .int (bi ||| (1 <<< ((nI k) &&& 31)))), (3, .int (nI k)), (0, .ref 0), (1, .int (nI b0))]) dX10_thoughtsLeft_70 rfl (by decide) rfl ?_
      refine ez_iinc (v := (nI (k + 1))) (l' := [(3, .int ((nI (k + 1)))), (2, .int (bi ||| (1 <<< ((nI k) &&& 31)))), (0, .ref 0), (1, .int (nI b0))]) dX10_thoughtsLeft_71 rfl (nI_1 _) (by decide) rfl ?_
      refine ez_goto (tgt := 15) dX10_thoughtsLeft_74 (by decide) ?_
      refine ez_le (f' := f + (6 - (k + 1))) (by omega) ?_
      exact ez_eq (l2 := [(3, .int (nI (k + 1))), (2, .int (bi ||| (1 <<< ((nI k) &&& 31)))), (0, .ref 0), (1, .int (nI b0))]) rfl rfl rfl rfl (ih _ (I9, bi ||| (1 <<< ((nI k) &&& 31)), (nI k), z_set gg 109 k (zst T (zup T.x (7 + b0) (nI k)))) ⟨hK10, (by rw [a_thk, ← hac, b_thk, if_neg (fun g => (a_tis_z _).mp g b11)]), (fun t ht => by show (z_set gg 109 k (zst T (zup T.x (7 + b0) (nI k)))) 109 t = _; by_cases e : t = k; rw [e, z_set_at]; rfl; rw [z_set_nk e]; exact hex t (by omega))⟩)
    · show ez_P _ _ _ _ _ _ 59 [(3, .int (nI k)), (2, .int bi), (0, .ref 0), (1, .int (nI b0))] (.int 0 :: [.int bi]) _ _
      refine ez_if_eq (tgt := 68) dX10_thoughtsLeft_59 (by decide) (fun c13 => ?_) (fun c13 => absurd (by decide) c13)
      refine ez_iconst (v := 0) dX10_thoughtsLeft_68 (by decide) ?_
      refine ez_ior dX10_thoughtsLeft_69 ?_
      refine ez_istore_n (l' := [(2, .int (bi ||| 0)), (3, .int (nI k)), (0, .ref 0), (1, .int (nI b0))]) dX10_thoughtsLeft_70 rfl (by decide) rfl ?_
      refine ez_iinc (v := (nI (k + 1))) (l' := [(3, .int ((nI (k + 1)))), (2, .int (bi ||| 0)), (0, .ref 0), (1, .int (nI b0))]) dX10_thoughtsLeft_71 rfl (nI_1 _) (by decide) rfl ?_
      refine ez_goto (tgt := 15) dX10_thoughtsLeft_74 (by decide) ?_
      refine ez_le (f' := f + (6 - (k + 1))) (by omega) ?_
      exact ez_eq (l2 := [(3, .int (nI (k + 1))), (2, .int (bi ||| 0)), (0, .ref 0), (1, .int (nI b0))]) rfl rfl rfl rfl (ih _ (I9, bi ||| 0, (nI k), z_set gg 109 k (zst T (zup T.x (7 + b0) (nI k)))) ⟨hK10, (by rw [a_thk, ← hac, b_thk, if_pos ((a_tis_z _).mpr b11)]), (fun t ht => by show (z_set gg 109 k (zst T (zup T.x (7 + b0) (nI k)))) 109 t = _; by_cases e : t = k; rw [e, z_set_at]; rfl; rw [z_set_nk e]; exact hex t (by omega))⟩)
  · rintro Bm ⟨Ia, bi, pl, gg⟩ ⟨hKl, hac, hex⟩
    have hKl : zK n kd I0 L0 R0 gg Ia L Rf T (some (zup T.x (7 + b0) pl)) Bf w := hKl
    have hac : bi = a_thk T (zsd T b0) 6 := hac
    have hex : ∀ t, t < 6 → gg 109 t = zsd T b0 t := hex
    show ez_P _ _ _ _ _ _ 15 [(3, .int (nI 6)), (2, .int bi), (0, .ref 0), (1, .int (nI b0))] [] (n, sl, kd, Ia, L, Rf) _
    refine ez_iload_n (i := 3) dX10_thoughtsLeft_15 rfl rfl ?_
    refine ez_bipush (v := 6) dX10_thoughtsLeft_16 (by decide) ?_
    refine ez_icmp_ge (tgt := 77) dX10_thoughtsLeft_18 (by decide) (fun c14 => ?_) (fun c14 => absurd (by decide) c14)
    refine ez_iload_n (i := 2) dX10_thoughtsLeft_77 rfl rfl ?_
    refine ez_iret dX10_thoughtsLeft_78 rfl rfl ?_
    rw [hac]; exact ⟨rfl, _, _, rfl, hKl.g0, hex⟩
theorem z_and1 (x : Int32) : ¬ x &&& 1 = 1 → x &&& 1 = 0 := by
  rw [← Int32.toBitVec_inj, ← Int32.toBitVec_inj, Int32.toBitVec_and]
  show ¬ x.toBitVec &&& 1#32 = 1#32 → x.toBitVec &&& 1#32 = 0#32
  rw [BitVec.and_one_eq_setWidth_ofBool_getLsbD]
  cases x.toBitVec.getLsbD 0 <;> decide
theorem c_minds_ok {n : Nat} {sl : Nat × Nat} {kd : Nat → Nat × Nat} {I : Nat → Nat → Int32} {L : Nat → Nat → Int64} {Rf : Nat → Nat → Option Nat} (d : Nat) {T : zT} {H : Nat} (hC : zC n kd I L Rf T) (hO : zOk H T) (hH : H ≤ 1000000000) {b0 : Nat} (hb : b0 < T.c) (f : Nat) (B : Nat → Int32) : ez_Q (f + 100) B f (fun _ => True) mX10_minds (d + 60) [.ref 0, .int (nI b0)] (n, sl, kd, I, L, Rf) (zpC n sl kd I L Rf (some (.int (s_minds T (nI b0)).1)) (s_minds T (nI b0)).2) := by
  have hF := hC.F; have hc7 := hO.c
  have hK0 : zK n kd I L Rf I I L Rf T none none false := zK.start hC
  refine ez_meth pn_X.2.2.2.2.2.2.2.2.2.2.1 (Nat.le_of_ble_eq_true rfl) ?_
  show ez_P _ _ _ _ _ _ 0 [(0, .ref 0), (1, .int (nI b0))] [] (n, sl, kd, I, L, Rf) _
  refine ez_aload_n (i := 0) dX10_minds_0 rfl rfl ?_
  refine ez_getR dX10_minds_1 flX10_33 (hF.lt (by decide)) (hF.kc (by decide) rfl) (hF.pt 21 rfl) ?_
  refine ez_iload_n (i := 1) dX10_minds_4 rfl rfl ?_
  refine ez_callV (M1 := mX7_has) (rest := []) dX10_minds_5 mlX10_155 mvX7_has rfl (hF.lt (by decide)) (hF.kc (by decide) rfl) (Nat.le_of_ble_eq_true rfl) rfl (zq_b1 (z_bin hb hO.c) (k_has (I := I) (L := L) (d + 59) hK0.C (nI b0))) eb_rok ?_
  rintro _ _ ⟨rfl, rfl⟩
  show ez_P _ _ _ _ _ _ 8 [(0, .ref 0), (1, .int (nI b0))] (.int 1 :: []) _ _
  refine ez_if_ne (tgt := 13) dX10_minds_8 (by decide) (fun c1 => ?_) (fun c1 => absurd (by decide) c1)
  refine ez_aload_n (i := 0) dX10_minds_13 rfl rfl ?_
  refine ez_iload_n (i := 1) dX10_minds_14 rfl rfl ?_
  refine ez_callVm (M1 := mX10_thoughtsLeft) (rest := []) dX10_minds_15 mlX10_354 mvX10_thoughtsLeft rfl (hF.lt (by decide)) (hF.kc (by decide) rfl) (Nat.le_of_ble_eq_true rfl) rfl (k_tle (T := T) (I := I) (L := L) (d + 29) hK0 hO hH hb (f + 94) _) zpKg_ok ?_
  rintro _ _ C4 _ ⟨rfl, I2, gy, rfl, hK3, hy⟩
  show ez_P _ _ _ _ _ _ 18 [(0, .ref 0), (1, .int (nI b0))] (.int (a_thk T (zsd T b0) 6) :: []) (n, sl, kd, I2, L, Rf) _
  have hK3 : zK n kd I L Rf gy I2 L Rf T none none false := hK3
  refine ez_istore_n (l' := [(2, .int (a_thk T (zsd T b0) 6)), (0, .ref 0), (1, .int (nI b0))]) dX10_minds_18 rfl (by decide) rfl ?_
  refine ez_aload_n (i := 0) dX10_minds_19 rfl rfl ?_
  refine ez_getR dX10_minds_20 flX10_19 (hF.lt (by decide)) (hF.kc (by decide) rfl) (hF.pt 3 rfl) ?_
  refine ez_iload_n (i := 2) dX10_minds_23 rfl rfl ?_
  refine ez_callS (M1 := mJ6_bitCount_0f7a4) (rest := [.ref 3]) dX10_minds_24 mlX10_330 msJ6_bitCount_0f7a4 rfl (Nat.le_of_ble_eq_true rfl) rfl (zq_r (fun σ => q_J6_bitCount_0f7a4 (σ := σ) (d + 59) (a_thk T (zsd T b0) 6)) (n, sl, kd, I2, L, Rf)) eb_rok ?_
  rintro _ _ ⟨rfl, rfl⟩
  show ez_P _ _ _ _ _ _ 27 [(2, .int (a_thk T (zsd T b0) 6)), (0, .ref 0), (1, .int (nI b0))] (.int (z_bc (a_thk T (zsd T b0) 6)) :: [.ref 3]) _ _
  refine ez_iload_n (i := 2) dX10_minds_27 rfl rfl ?_
  refine ez_aload_n (i := 0) dX10_minds_28 rfl rfl ?_
  refine ez_getR dX10_minds_29 flX10_33 (hF.lt (by decide)) (hF.kc (by decide) rfl) (hF.pt 21 rfl) ?_
  refine ez_getR dX10_minds_32 flX10_168 (hF.lt (by decide)) (hF.kc (by decide) rfl) (hF.pt 19 rfl) ?_
  refine ez_iload_n (i := 1) dX10_minds_35 rfl rfl ?_
  refine ez_iaN (k := b0) dX10_minds_36 (hF.lt (by decide)) (hF.ka (by decide) rfl) (by omega) (by decide) ?_
  refine ez_topE (y := T.x (7 + b0)) (hK3.C.sh.t _ (by omega)) ?_
  refine ez_callS (M1 := mX10_hasBit) (rest := [.int (z_bc (a_thk T (zsd T b0) 6)), .ref 3]) dX10_minds_37 mlX10_346 msX10_hasBit rfl (Nat.le_of_ble_eq_true rfl) rfl (zq_b (q_X10_hasBit (d + 59) (a_thk T (zsd T b0) 6) (T.x (7 + b0))) (n, sl, kd, I2, L, Rf)) eb_bok ?_
  rintro _ _ ⟨rfl, ⟨b5, rfl⟩ | ⟨b5, rfl⟩⟩
  · show ez_P _ _ _ _ _ _ 40 [(2, .int (a_thk T (zsd T b0) 6)), (0, .ref 0), (1, .int (nI b0))] (.int 1 :: [.int (z_bc (a_thk T (zsd T b0) 6)), .ref 3]) _ _
    refine ez_if_eq (tgt := 47) dX10_minds_40 (by decide) (fun c6 => absurd c6 (by decide)) (fun c6 => ?_)
    refine ez_iconst (v := 1) dX10_minds_43 (by decide) ?_
    refine ez_goto (tgt := 48) dX10_minds_44 (by decide) ?_
    refine ez_callV (M1 := mX4_tell_) (rest := []) dX10_minds_48 mlX10_204 mvX4_tell_ rfl (hF.lt (by decide)) (hF.kc (by decide) rfl) (Nat.le_of_ble_eq_true rfl) rfl (y_X4_tell_ (I := I2) (L := L) (d + 58) hF (z_bc (a_thk T (zsd T b0) 6)) 1) z_tok ?_
    rintro _ _ ⟨rfl, I7, L8, rfl, hr9, ho10⟩
    show ez_P _ _ _ _ _ _ 51 [(2, .int (a_thk T (zsd T b0) 6)), (0, .ref 0), (1, .int (nI b0))] [] (n, sl, kd, I7, L8, Rf) _
    have hK11 : zK n kd I L Rf gy I7 L8 Rf (T.w_rw [(z_bc (a_thk T (zsd T b0) 6)).toInt64, (1 : Int32).toInt64]) none none false := by exact hK3.tell hr9 ho10
    refine ez_iload_n (i := 2) dX10_minds_51 rfl rfl ?_
    refine ez_iret dX10_minds_52 rfl rfl ?_
    rw [show s_minds T (nI b0) = (a_thk T (zsd T b0) 6, T.w_rw [(z_bc (a_thk T (zsd T b0) 6)).toInt64, (1 : Int32).toInt64]) from by unfold s_minds; rw [if_pos ⟨(z_bin hb hO.c).1, (z_bin hb hO.c).2⟩, nI_clamp (by omega), show a_thk T (zsd T b0) 6 >>> (T.x (7 + b0) &&& 31) &&& 1 = 1 from b5]]
    exact hK11.end
  · show ez_P _ _ _ _ _ _ 40 [(2, .int (a_thk T (zsd T b0) 6)), (0, .ref 0), (1, .int (nI b0))] (.int 0 :: [.int (z_bc (a_thk T (zsd T b0) 6)), .ref 3]) _ _
    refine ez_if_eq (tgt := 47) dX10_minds_40 (by decide) (fun c12 => ?_) (fun c12 => absurd (by decide) c12)
    refine ez_iconst (v := 0) dX10_minds_47 (by decide) ?_
    refine ez_callV (M1 := mX4_tell_) (rest := []) dX10_minds_48 mlX10_204 mvX4_tell_ rfl (hF.lt (by decide)) (hF.kc (by decide) rfl) (Nat.le_of_ble_eq_true rfl) rfl (y_X4_tell_ (I := I2) (L := L) (d + 58) hF (z_bc (a_thk T (zsd T b0) 6)) 0) z_tok ?_
    rintro _ _ ⟨rfl, I13, L14, rfl, hr15, ho16⟩
    show ez_P _ _ _ _ _ _ 51 [(2, .int (a_thk T (zsd T b0) 6)), (0, .ref 0), (1, .int (nI b0))] [] (n, sl, kd, I13, L14, Rf) _
    have hK17 : zK n kd I L Rf gy I13 L14 Rf (T.w_rw [(z_bc (a_thk T (zsd T b0) 6)).toInt64, (0 : Int32).toInt64]) none none false := by exact hK3.tell hr15 ho16
    refine ez_iload_n (i := 2) dX10_minds_51 rfl rfl ?_
    refine ez_iret dX10_minds_52 rfl rfl ?_
    rw [show s_minds T (nI b0) = (a_thk T (zsd T b0) 6, T.w_rw [(z_bc (a_thk T (zsd T b0) 6)).toInt64, (0 : Int32).toInt64]) from by unfold s_minds; rw [if_pos ⟨(z_bin hb hO.c).1, (z_bin hb hO.c).2⟩, nI_clamp (by omega), z_and1 _ b5]]
    exact hK17.end
theorem c_minds_no {n : Nat} {sl : Nat × Nat} {kd : Nat → Nat × Nat} {I : Nat → Nat → Int32} {L : Nat → Nat → Int64} {Rf : Nat → Nat → Option Nat} (d : Nat) {T : zT} {H : Nat} (hC : zC n kd I L Rf T) (hO : zOk H T) (hH : H ≤ 1000000000) {v : Int32} (hn : ¬ (0 ≤ v ∧ v < nI T.c)) (f : Nat) (B : Nat → Int32) : ez_Q (f + 100) B f (fun _ => True) mX10_minds (d + 60) [.ref 0, .int v] (n, sl, kd, I, L, Rf) (zpC n sl kd I L Rf (some (.int (s_minds T v).1)) (s_minds T v).2) := by
  have hF := hC.F; have hc7 := hO.c
  have hK0 : zK n kd I L Rf I I L Rf T none none false := zK.start hC
  have hsp : s_minds T v = ((-1), T) := (by unfold s_minds; rw [if_neg hn])
  rw [hsp]
  refine ez_meth pn_X.2.2.2.2.2.2.2.2.2.2.1 (Nat.le_of_ble_eq_true rfl) ?_
  show ez_P _ _ _ _ _ _ 0 [(0, .ref 0), (1, .int v)] [] (n, sl, kd, I, L, Rf) _
  refine ez_aload_n (i := 0) dX10_minds_0 rfl rfl ?_
  refine ez_getR dX10_minds_1 flX10_33 (hF.lt (by decide)) (hF.kc (by decide) rfl) (hF.pt 21 rfl) ?_
  refine ez_iload_n (i := 1) dX10_minds_4 rfl rfl ?_
  refine ez_callV (M1 := mX7_has) (rest := []) dX10_minds_5 mlX10_155 mvX7_has rfl (hF.lt (by decide)) (hF.kc (by decide) rfl) (Nat.le_of_ble_eq_true rfl) rfl (zq_b0 hn (k_has (I := I) (L := L) (d + 59) hK0.C v)) eb_rok ?_
  rintro _ _ ⟨rfl, rfl⟩
  show ez_P _ _ _ _ _ _ 8 [(0, .ref 0), (1, .int v)] (.int 0 :: []) _ _
  refine ez_if_ne (tgt := 13) dX10_minds_8 (by decide) (fun c1 => absurd c1 (by decide)) (fun c1 => ?_)
  refine ez_iconst (v := (-1)) dX10_minds_11 (by decide) ?_
  refine ez_iret dX10_minds_12 rfl rfl ?_
  exact hK0.end
theorem c_minds {n : Nat} {sl : Nat × Nat} {kd : Nat → Nat × Nat} {I : Nat → Nat → Int32} {L : Nat → Nat → Int64} {Rf : Nat → Nat → Option Nat} (d : Nat) {T : zT} {H : Nat} (hC : zC n kd I L Rf T) (hO : zOk H T) (hH : H ≤ 1000000000) (v : Int32) (f : Nat) (B : Nat → Int32) : ez_Q (f + 100) B f (fun _ => True) mX10_minds (d + 60) [.ref 0, .int v] (n, sl, kd, I, L, Rf) (zpC n sl kd I L Rf (some (.int (s_minds T v).1)) (s_minds T v).2) := by
  by_cases hn : 0 ≤ v ∧ v < nI T.c
  · obtain ⟨b0, hb, rfl⟩ := pk_of (by have := hO.c; omega) hn.1 hn.2
    exact c_minds_ok d hC hO hH hb f B
  · exact c_minds_no d hC hO hH hn f B
/-- how many of the first n have t's number -/
def zct (c : Nat → Bool) (P : Nat → Int32) (t : Nat) : Nat → Nat
  | 0 => 0
  | k + 1 => zct c P t k + (if c k = true ∧ P k = P t then 1 else 0)
def zmx (f : Nat → Nat) : Nat → Nat
  | 0 => 0
  | k + 1 => max (zmx f k) (f k)
theorem zmx_le {f : Nat → Nat} {n m : Nat} : zmx f n ≤ m ↔ ∀ t, t < n → f t ≤ m := by
  induction n with
  | zero => exact ⟨fun _ t ht => absurd ht (Nat.not_lt_zero t), fun _ => Nat.zero_le _⟩
  | succ n ih =>
    rw [zmx, Nat.max_le, ih]
    exact ⟨fun h t ht => by by_cases e : t = n; rw [e]; exact h.2; exact h.1 t (by omega), fun h => ⟨fun t ht => h t (by omega), h n (by omega)⟩⟩
theorem zct_eq {c : Nat → Bool} {P : Nat → Int32} {t u : Nat} (h : P t = P u) (n : Nat) : zct c P t n = zct c P u n := by
  induction n with
  | zero => rfl
  | succ n ih => rw [zct, zct, ih, h]
theorem zct_mono {c : Nat → Bool} {P : Nat → Int32} {t a b : Nat} (h : a ≤ b) : zct c P t a ≤ zct c P t b := by
  induction b with
  | zero => rw [Nat.le_zero.mp h]; exact Nat.le_refl _
  | succ b ih =>
    by_cases e : a = b + 1
    · rw [e]; exact Nat.le_refl _
    · rw [zct]; have := ih (by omega); omega
def zrf (c : Nat → Bool) (P : Nat → Int32) (n t : Nat) : Nat := if c t = true then zct c P t n else 0
def zcl (c : Nat → Bool) (P : Nat → Int32) (t : Nat) : Nat := if c t = true then zct c P t (t + 1) else 0
theorem zmx_same (c : Nat → Bool) (P : Nat → Int32) (n : Nat) : zmx (zcl c P) n = zmx (zrf c P n) n := by
  induction n with
  | zero => rfl
  | succ n ih =>
    apply Nat.le_antisymm
    · rw [zmx_le]
      intro t ht
      refine Nat.le_trans ?_ (zmx_le.mp (Nat.le_refl _) t ht)
      unfold zcl zrf
      split
      · exact zct_mono (by omega)
      · exact Nat.le_refl _
    · rw [zmx_le]
      intro t ht
      rw [zmx, ih]
      unfold zrf
      by_cases hc : c t = true
      · rw [if_pos hc, zct]
        by_cases e : c n = true ∧ P n = P t
        · refine Nat.le_trans ?_ (Nat.le_max_right _ _)
          rw [zcl, if_pos e.1, zct, if_pos e, if_pos ⟨e.1, rfl⟩, zct_eq e.2]
          exact Nat.le_refl _
        · rw [if_neg e]
          by_cases et : t = n
          · exact absurd ⟨et ▸ hc, by rw [et]⟩ e
          · refine Nat.le_trans ?_ (Nat.le_max_left _ _)
            refine Nat.le_trans ?_ (zmx_le.mp (Nat.le_refl _) t (by omega))
            rw [if_pos hc]; exact Nat.le_refl _
      · rw [if_neg hc]; exact Nat.zero_le _
abbrev zbb (bi : Int32) (k : Nat) : Bool := decide (bi >>> (nI k &&& 31) &&& 1 = 1)
theorem a_lkn_z {bi : Int32} {y : Nat → Int32} {w s : Int32} {t : Nat} (n : Nat) : a_lkn bi y w s t n = nI (if zbb bi t = true then zct (zbb bi) (fun q => z_pull (y q) w s) t n else 0) := by
  induction n with
  | zero => split <;> rfl
  | succ n ih =>
    rw [a_lkn, b_lkn, ih]
    by_cases h : bi >>> (nI t &&& 31) &&& 1 = 1
    · have hb : zbb bi t = true := decide_eq_true h
      rw [if_pos h, if_pos hb, if_pos hb, zct]
      by_cases h2 : bi >>> (nI n &&& 31) &&& 1 = 1
      · by_cases h3 : z_pull (y n) w s = z_pull (y t) w s
        · rw [if_pos h2, if_pos h3, if_pos ⟨decide_eq_true h2, h3⟩, nI_1]
        · rw [if_pos h2, if_neg h3, if_neg (fun g => h3 g.2), Int32.add_zero]; rfl
      · rw [if_neg h2, if_neg (fun g => h2 (of_decide_eq_true g.1)), Int32.add_zero]; rfl
    · have hb : ¬ zbb bi t = true := fun g => h (of_decide_eq_true g)
      rw [if_neg h, if_neg hb, if_neg hb, Int32.add_zero]
theorem zct_le {c : Nat → Bool} {P : Nat → Int32} {t : Nat} (n : Nat) : zct c P t n ≤ n := by
  induction n with
  | zero => exact Nat.le_refl _
  | succ n ih => rw [zct]; split <;> omega
theorem zmx_n {f : Nat → Nat} {n m : Nat} (h : ∀ t, t < n → f t ≤ m) : zmx f n ≤ m := zmx_le.mpr h
theorem z_mxn {a b : Nat} (ha : a < 2147483648) (hb : b < 2147483648) : (if nI a < nI b then nI b else nI a) = nI (max a b) := by
  by_cases h : a < b
  · rw [if_pos (nI_lt h hb), Nat.max_eq_right (by omega)]
  · rw [if_neg (Int32.not_lt.mpr (nI_le (by omega) ha)), Nat.max_eq_left (by omega)]
theorem zrf_le {c : Nat → Bool} {P : Nat → Int32} {n t : Nat} : zrf c P n t ≤ n := by unfold zrf; split; exact zct_le n; omega
theorem zcl_le {c : Nat → Bool} {P : Nat → Int32} {t : Nat} : zcl c P t ≤ t + 1 := by unfold zcl; split; exact zct_le _; omega
theorem a_lkm_z {bi : Int32} {y : Nat → Int32} {w s : Int32} : ∀ n, n ≤ 6 → a_lkm bi y w s n = nI (zmx (zrf (zbb bi) (fun q => z_pull (y q) w s) 6) n) := by
  intro n
  induction n with
  | zero => intro _; rfl
  | succ n ih =>
    intro hn
    rw [a_lkm, b_lkm, ih (by omega), a_lkn_z, zmx]
    show (if nI _ < nI (zrf _ _ 6 n) then nI (zrf _ _ 6 n) else nI _) = _
    rw [z_mxn (by have := zmx_n (f := zrf (zbb bi) (fun q => z_pull (y q) w s) 6) (n := n) (m := 6) (fun _ _ => zrf_le); omega) (by have := zrf_le (c := zbb bi) (P := fun q => z_pull (y q) w s) (n := 6) (t := n); omega)]
theorem a_lkm_n {bi : Int32} {y : Nat → Int32} {w s : Int32} : ∃ m, m ≤ 6 ∧ a_lkm bi y w s 6 = nI m := ⟨_, zmx_n (fun _ _ => zrf_le), a_lkm_z 6 (Nat.le_refl _)⟩
theorem k_mol {n : Nat} {sl : Nat × Nat} {kd : Nat → Nat × Nat} {I : Nat → Nat → Int32} {L : Nat → Nat → Int64} {Rf : Nat → Nat → Option Nat} (d : Nat) {T : zT} {H : Nat} {I0 g : Nat → Nat → Int32} {L0 : Nat → Nat → Int64} {R0 : Nat → Nat → Option Nat} {G Bf : Option (Nat → Int32)} {wt : Bool} (hK : zK n kd I0 L0 R0 g I L Rf T G Bf wt) (hO : zOk H T) (hH : H ≤ 1000000000) {y : Nat → Int32} (hy : ∀ t, t < 6 → g 109 t = y t) (bi w s : Int32) : zq mX10_mostLeft (d + 20) [.ref 0, .int bi, .int w, .int s] (n, sl, kd, I, L, Rf) (zpKg n sl kd I0 L0 R0 L Rf T G Bf wt (some (.int (a_lkm bi y w s 6))) (fun g1 => g1 109 = g 109)) := by
  have hC := hK.C; have hF := hC.F; have hc7 := hO.c
  intro f B
  refine ez_meth pn_X.2.2.2.2.2.2.2.2.2.2.1 (Nat.le_of_ble_eq_true rfl) ?_
  show ez_P _ _ _ _ _ _ 0 [(0, .ref 0), (1, .int bi), (2, .int w), (3, .int s)] [] (n, sl, kd, I, L, Rf) _
  refine ez_iconst (v := 0) dX10_mostLeft_0 (by decide) ?_
  refine ez_istore (l' := [(4, .int 0), (0, .ref 0), (1, .int bi), (2, .int w), (3, .int s)]) dX10_mostLeft_1 (by decide) rfl ?_
  refine ez_iconst (v := 0) dX10_mostLeft_3 (by decide) ?_
  refine ez_istore (l' := [(5, .int 0), (4, .int 0), (0, .ref 0), (1, .int bi), (2, .int w), (3, .int s)]) dX10_mostLeft_4 (by decide) rfl ?_
  refine ez_eq (l2 := [(5, .int (nI 0)), (4, .int 0), (0, .ref 0), (1, .int bi), (2, .int w), (3, .int s)]) (σ2 := (n, sl, kd, I, L, Rf)) rfl rfl rfl rfl ?_
  refine ez_for 6 (fun k (a : (Nat → Nat → Int32) × Int32 × (Nat → Nat → Int32)) => ([(5, .int (nI k)), (4, .int a.2.1), (0, .ref 0), (1, .int bi), (2, .int w), (3, .int s)], (n, sl, kd, a.1, L, Rf))) (fun k a => zK n kd I0 L0 R0 a.2.2 a.1 L Rf T G Bf wt ∧ a.2.2 109 = g 109 ∧ (∀ t, t < k → a.2.2 110 t = z_pull (y t) w s) ∧ a.2.1 = nI (zmx (zcl (zbb bi) (fun q => z_pull (y q) w s)) k)) ?_ ?_ 6 0 (I, 0, g) (by omega) ⟨hK, ⟨rfl, fun t ht => absurd ht (Nat.not_lt_zero t), rfl⟩⟩
  · rintro k ⟨Ia, mo, gg⟩ hk ⟨hKl, hex⟩ ih
    have hKl : zK n kd I0 L0 R0 gg Ia L Rf T G Bf wt := hKl
    have hex : gg 109 = g 109 ∧ (∀ t, t < k → gg 110 t = z_pull (y t) w s) ∧ mo = nI (zmx (zcl (zbb bi) (fun q => z_pull (y q) w s)) k) := hex
    show ez_P _ _ _ _ _ _ 6 [(5, .int (nI k)), (4, .int mo), (0, .ref 0), (1, .int bi), (2, .int w), (3, .int s)] [] (n, sl, kd, Ia, L, Rf) _
    refine ez_iload (i := 5) dX10_mostLeft_6 rfl ?_
    refine ez_bipush (v := 6) dX10_mostLeft_8 (by decide) ?_
    refine ez_icmp_ge (tgt := 116) dX10_mostLeft_10 (by decide) (fun c1 => absurd c1 (nI_ge (b := 6) hk (by decide))) (fun c1 => ?_)
    refine ez_aload_n (i := 0) dX10_mostLeft_13 rfl rfl ?_
    refine ez_getR dX10_mostLeft_14 flX10_98 (hF.lt (by decide)) (hF.kc (by decide) rfl) (hF.pt 105 rfl) ?_
    refine ez_iload (i := 5) dX10_mostLeft_17 rfl ?_
    refine ez_aload_n (i := 0) dX10_mostLeft_19 rfl rfl ?_
    refine ez_getR dX10_mostLeft_20 flX10_95 (hF.lt (by decide)) (hF.kc (by decide) rfl) (hF.pt 104 rfl) ?_
    refine ez_iload (i := 5) dX10_mostLeft_23 rfl ?_
    refine ez_iaN (k := k) dX10_mostLeft_25 (hF.lt (by decide)) (hF.ka (by decide) rfl) (by omega) (by decide) ?_
    refine ez_topE (y := y k) ((congrFun (hKl.g 109 (by unfold zgk; omega)) _).trans ((congrFun hex.1 _).trans (hy _ (by omega)))) ?_
    refine ez_iload_n (i := 2) dX10_mostLeft_26 rfl rfl ?_
    refine ez_iload_n (i := 3) dX10_mostLeft_27 rfl rfl ?_
    refine ez_callS (M1 := mX10_pullOf) (rest := [.int (nI k), .ref 110]) dX10_mostLeft_28 mlX10_275 msX10_pullOf rfl (Nat.le_of_ble_eq_true rfl) rfl (zq_r (q_X10_pullOf (d + 18) (y k) w s) (n, sl, kd, Ia, L, Rf)) eb_rok ?_
    rintro _ _ ⟨rfl, rfl⟩
    show ez_P _ _ _ _ _ _ 31 [(5, .int (nI k)), (4, .int mo), (0, .ref 0), (1, .int bi), (2, .int w), (3, .int s)] (.int (z_pull (y k) w s) :: [.int (nI k), .ref 110]) _ _
    refine ez_isN (k := k) dX10_mostLeft_31 (hF.lt (by decide)) (hF.lx (by decide)) (hF.ka (by decide) rfl) (by omega) (by decide) ?_
    refine ez_nmI (fun I2 hI2 => ?_)
    have hK3 : zK n kd I0 L0 R0 (z_set gg 110 k (z_pull (y k) w s)) I2 L Rf T G Bf wt := by rw [hI2]; exact hKl.gset (by unfold zgk; omega)
    obtain ⟨gn, hgn⟩ : ∃ z, z = z_set gg 110 k (z_pull (y k) w s) := ⟨_, rfl⟩
    have hKn : zK n kd I0 L0 R0 gn I2 L Rf T G Bf wt := by rw [hgn]; exact hK3
    have hpp : ∀ t, t < k + 1 → gn 110 t = z_pull (y t) w s := fun t ht => by rw [hgn]; by_cases e : t = k; rw [e, z_set_at]; rw [z_set_nk e]; exact hex.2.1 t (by omega)
    have hp9 : gn 109 = g 109 := by rw [hgn, z_set_ne (by decide)]; exact hex.1
    refine ez_iconst (v := 0) dX10_mostLeft_32 (by decide) ?_
    refine ez_istore (l' := [(6, .int 0), (5, .int (nI k)), (4, .int mo), (0, .ref 0), (1, .int bi), (2, .int w), (3, .int s)]) dX10_mostLeft_33 (by decide) rfl ?_
    refine ez_iconst (v := 0) dX10_mostLeft_35 (by decide) ?_
    refine ez_istore (l' := [(7, .int 0), (6, .int 0), (5, .int (nI k)), (4, .int mo), (0, .ref 0), (1, .int bi), (2, .int w), (3, .int s)]) dX10_mostLeft_36 (by decide) rfl ?_
    refine ez_eq (l2 := [(7, .int (nI 0)), (6, .int 0), (5, .int (nI k)), (4, .int mo), (0, .ref 0), (1, .int bi), (2, .int w), (3, .int s)]) (σ2 := (n, sl, kd, I2, L, Rf)) rfl rfl rfl rfl ?_
    refine ez_for (k + 1) (fun j (a : Int32) => ([(7, .int (nI j)), (6, .int a), (5, .int (nI k)), (4, .int mo), (0, .ref 0), (1, .int bi), (2, .int w), (3, .int s)], (n, sl, kd, I2, L, Rf))) (fun j a => a = (fun q => nI (zct (zbb bi) (fun q => z_pull (y q) w s) k q)) j) ?_ ?_ (k + 1) 0 (0) (by omega) rfl
    · rintro j al hk2 hac2 ih2
      have hac2 : al = (fun q => nI (zct (zbb bi) (fun q => z_pull (y q) w s) k q)) j := hac2
      show ez_P _ _ _ _ _ _ 38 [(7, .int (nI j)), (6, .int al), (5, .int (nI k)), (4, .int mo), (0, .ref 0), (1, .int bi), (2, .int w), (3, .int s)] [] (n, sl, kd, I2, L, Rf) _
      refine ez_iload (i := 7) dX10_mostLeft_38 rfl ?_
      refine ez_iload (i := 5) dX10_mostLeft_40 rfl ?_
      refine ez_icmp_gt (tgt := 87) dX10_mostLeft_42 (by decide) (fun c4 => absurd c4 (Int32.not_lt.mpr (nI_le (by omega) (by omega)))) (fun c4 => ?_)
      refine ez_iload (i := 6) dX10_mostLeft_45 rfl ?_
      refine ez_iload_n (i := 1) dX10_mostLeft_47 rfl rfl ?_
      refine ez_iload (i := 7) dX10_mostLeft_48 rfl ?_
      refine ez_callS (M1 := mX10_hasBit) (rest := [.int al]) dX10_mostLeft_50 mlX10_346 msX10_hasBit rfl (Nat.le_of_ble_eq_true rfl) rfl (zq_b (q_X10_hasBit (d + 19) bi (nI j)) (n, sl, kd, I2, L, Rf)) eb_bok ?_
      rintro _ _ ⟨rfl, ⟨b5, rfl⟩ | ⟨b5, rfl⟩⟩
      · show ez_P _ _ _ _ _ _ 53 [(7, .int (nI j)), (6, .int al), (5, .int (nI k)), (4, .int mo), (0, .ref 0), (1, .int bi), (2, .int w), (3, .int s)] (.int 1 :: [.int al]) _ _
        refine ez_if_eq (tgt := 77) dX10_mostLeft_53 (by decide) (fun c6 => absurd c6 (by decide)) (fun c6 => ?_)
        refine ez_aload_n (i := 0) dX10_mostLeft_56 rfl rfl ?_
        refine ez_getR dX10_mostLeft_57 flX10_98 (hF.lt (by decide)) (hF.kc (by decide) rfl) (hF.pt 105 rfl) ?_
        refine ez_iload (i := 7) dX10_mostLeft_60 rfl ?_
        refine ez_iaN (k := j) dX10_mostLeft_62 (hF.lt (by decide)) (hF.ka (by decide) rfl) (by omega) (by decide) ?_
        refine ez_topE (y := z_pull (y j) w s) ((congrFun (hKn.g 110 (by unfold zgk; omega)) _).trans (hpp _ (by omega))) ?_
        refine ez_aload_n (i := 0) dX10_mostLeft_63 rfl rfl ?_
        refine ez_getR dX10_mostLeft_64 flX10_98 (hF.lt (by decide)) (hF.kc (by decide) rfl) (hF.pt 105 rfl) ?_
        refine ez_iload (i := 5) dX10_mostLeft_67 rfl ?_
        refine ez_iaN (k := k) dX10_mostLeft_69 (hF.lt (by decide)) (hF.ka (by decide) rfl) (by omega) (by decide) ?_
        refine ez_topE (y := z_pull (y k) w s) ((congrFun (hKn.g 110 (by unfold zgk; omega)) _).trans (hpp _ (by omega))) ?_
        refine ez_icmp_ne (tgt := 77) dX10_mostLeft_70 (by decide) (fun c7 => ?_) (fun c7 => ?_)
        · skip
          refine ez_iconst (v := 0) dX10_mostLeft_77 (by decide) ?_
          refine ez_iadd dX10_mostLeft_78 ?_
          refine ez_istore (l' := [(6, .int (al + 0)), (7, .int (nI j)), (5, .int (nI k)), (4, .int mo), (0, .ref 0), (1, .int bi), (2, .int w), (3, .int s)]) dX10_mostLeft_79 (by decide) rfl ?_
          refine ez_iinc (v := (nI (j + 1))) (l' := [(7, .int ((nI (j + 1)))), (6, .int (al + 0)), (5, .int (nI k)), (4, .int mo), (0, .ref 0), (1, .int bi), (2, .int w), (3, .int s)]) dX10_mostLeft_81 rfl (nI_1 _) (by decide) rfl ?_
          refine ez_goto (tgt := 38) dX10_mostLeft_84 (by decide) ?_
          exact ez_eq (l2 := [(7, .int (nI (j + 1))), (6, .int (al + 0)), (5, .int (nI k)), (4, .int mo), (0, .ref 0), (1, .int bi), (2, .int w), (3, .int s)]) rfl rfl rfl rfl (ih2 (al + 0) (by show _ = nI (zct _ _ k (j + 1)); rw [zct, hac2]; show nI _ + _ = _; rw [if_neg (fun g => c7 g.2), Int32.add_zero]; rfl))
        · skip
          refine ez_iconst (v := 1) dX10_mostLeft_73 (by decide) ?_
          refine ez_goto (tgt := 78) dX10_mostLeft_74 (by decide) ?_
          refine ez_iadd dX10_mostLeft_78 ?_
          refine ez_istore (l' := [(6, .int (al + 1)), (7, .int (nI j)), (5, .int (nI k)), (4, .int mo), (0, .ref 0), (1, .int bi), (2, .int w), (3, .int s)]) dX10_mostLeft_79 (by decide) rfl ?_
          refine ez_iinc (v := (nI (j + 1))) (l' := [(7, .int ((nI (j + 1)))), (6, .int (al + 1)), (5, .int (nI k)), (4, .int mo), (0, .ref 0), (1, .int bi), (2, .int w), (3, .int s)]) dX10_mostLeft_81 rfl (nI_1 _) (by decide) rfl ?_
          refine ez_goto (tgt := 38) dX10_mostLeft_84 (by decide) ?_
          exact ez_eq (l2 := [(7, .int (nI (j + 1))), (6, .int (al + 1)), (5, .int (nI k)), (4, .int mo), (0, .ref 0), (1, .int bi), (2, .int w), (3, .int s)]) rfl rfl rfl rfl (ih2 (al + 1) (by show _ = nI (zct _ _ k (j + 1)); rw [zct, hac2]; show nI _ + _ = _; rw [if_pos ⟨decide_eq_true b5, Classical.not_not.mp c7⟩, nI_1]))
      · show ez_P _ _ _ _ _ _ 53 [(7, .int (nI j)), (6, .int al), (5, .int (nI k)), (4, .int mo), (0, .ref 0), (1, .int bi), (2, .int w), (3, .int s)] (.int 0 :: [.int al]) _ _
        refine ez_if_eq (tgt := 77) dX10_mostLeft_53 (by decide) (fun c8 => ?_) (fun c8 => absurd (by decide) c8)
        refine ez_iconst (v := 0) dX10_mostLeft_77 (by decide) ?_
        refine ez_iadd dX10_mostLeft_78 ?_
        refine ez_istore (l' := [(6, .int (al + 0)), (7, .int (nI j)), (5, .int (nI k)), (4, .int mo), (0, .ref 0), (1, .int bi), (2, .int w), (3, .int s)]) dX10_mostLeft_79 (by decide) rfl ?_
        refine ez_iinc (v := (nI (j + 1))) (l' := [(7, .int ((nI (j + 1)))), (6, .int (al + 0)), (5, .int (nI k)), (4, .int mo), (0, .ref 0), (1, .int bi), (2, .int w), (3, .int s)]) dX10_mostLeft_81 rfl (nI_1 _) (by decide) rfl ?_
        refine ez_goto (tgt := 38) dX10_mostLeft_84 (by decide) ?_
        exact ez_eq (l2 := [(7, .int (nI (j + 1))), (6, .int (al + 0)), (5, .int (nI k)), (4, .int mo), (0, .ref 0), (1, .int bi), (2, .int w), (3, .int s)]) rfl rfl rfl rfl (ih2 (al + 0) (by show _ = nI (zct _ _ k (j + 1)); rw [zct, hac2]; show nI _ + _ = _; rw [if_neg (fun g => b5 (of_decide_eq_true g.1)), Int32.add_zero]; rfl))
    · rintro al hac2
      have hac2 : al = (fun q => nI (zct (zbb bi) (fun q => z_pull (y q) w s) k q)) (k + 1) := hac2
      show ez_P _ _ _ _ _ _ 38 [(7, .int (nI (k + 1))), (6, .int al), (5, .int (nI k)), (4, .int mo), (0, .ref 0), (1, .int bi), (2, .int w), (3, .int s)] [] (n, sl, kd, I2, L, Rf) _
      refine ez_iload (i := 7) dX10_mostLeft_38 rfl ?_
      refine ez_iload (i := 5) dX10_mostLeft_40 rfl ?_
      refine ez_icmp_gt (tgt := 87) dX10_mostLeft_42 (by decide) (fun c9 => ?_) (fun c9 => absurd (nI_lt (by omega) (by omega)) c9)
      refine ez_iload_n (i := 1) dX10_mostLeft_87 rfl rfl ?_
      refine ez_iload (i := 5) dX10_mostLeft_88 rfl ?_
      refine ez_callS (M1 := mX10_hasBit) (rest := []) dX10_mostLeft_90 mlX10_346 msX10_hasBit rfl (Nat.le_of_ble_eq_true rfl) rfl (zq_b (q_X10_hasBit (d + 19) bi (nI k)) (n, sl, kd, I2, L, Rf)) eb_bok ?_
      rintro _ _ ⟨rfl, ⟨b10, rfl⟩ | ⟨b10, rfl⟩⟩
      · show ez_P _ _ _ _ _ _ 93 [(7, .int (nI (k + 1))), (6, .int al), (5, .int (nI k)), (4, .int mo), (0, .ref 0), (1, .int bi), (2, .int w), (3, .int s)] (.int 1 :: []) _ _
        refine ez_if_eq (tgt := 106) dX10_mostLeft_93 (by decide) (fun c11 => absurd c11 (by decide)) (fun c11 => ?_)
        refine ez_iload (i := 4) dX10_mostLeft_96 rfl ?_
        refine ez_iload (i := 6) dX10_mostLeft_98 rfl ?_
        refine ez_max dX10_mostLeft_100 xmX10_247 (Nat.le_of_ble_eq_true rfl) ?_
        refine ez_goto (tgt := 108) dX10_mostLeft_103 (by decide) ?_
        refine ez_istore (l' := [(4, .int (if mo < al then al else mo)), (7, .int (nI (k + 1))), (6, .int al), (5, .int (nI k)), (0, .ref 0), (1, .int bi), (2, .int w), (3, .int s)]) dX10_mostLeft_108 (by decide) rfl ?_
        refine ez_iinc (v := (nI (k + 1))) (l' := [(5, .int ((nI (k + 1)))), (4, .int (if mo < al then al else mo)), (7, .int (nI (k + 1))), (6, .int al), (0, .ref 0), (1, .int bi), (2, .int w), (3, .int s)]) dX10_mostLeft_110 rfl (nI_1 _) (by decide) rfl ?_
        refine ez_goto (tgt := 6) dX10_mostLeft_113 (by decide) ?_
        refine ez_sub (l' := [(5, .int ((nI (k + 1)))), (4, .int (if mo < al then al else mo)), (0, .ref 0), (1, .int bi), (2, .int w), (3, .int s)]) [0, 1, 4, 5, 6, 7] rfl ?_
        exact ez_eq (l2 := [(5, .int (nI (k + 1))), (4, .int (if mo < al then al else mo)), (0, .ref 0), (1, .int bi), (2, .int w), (3, .int s)]) rfl rfl rfl rfl (ih (I2, if mo < al then al else mo, gn) ⟨hKn, ⟨hp9, hpp, by rw [zmx, zcl, if_pos (decide_eq_true b10), hex.2.2, hac2]; exact z_mxn (by have := zmx_n (f := zcl (zbb bi) (fun q => z_pull (y q) w s)) (n := k) (m := 6) (fun t ht => Nat.le_trans zcl_le (by omega)); omega) (by have := zct_le (c := zbb bi) (P := fun q => z_pull (y q) w s) (t := k) (k + 1); omega)⟩⟩)
      · show ez_P _ _ _ _ _ _ 93 [(7, .int (nI (k + 1))), (6, .int al), (5, .int (nI k)), (4, .int mo), (0, .ref 0), (1, .int bi), (2, .int w), (3, .int s)] (.int 0 :: []) _ _
        refine ez_if_eq (tgt := 106) dX10_mostLeft_93 (by decide) (fun c12 => ?_) (fun c12 => absurd (by decide) c12)
        refine ez_iload (i := 4) dX10_mostLeft_106 rfl ?_
        refine ez_istore (l' := [(4, .int mo), (7, .int (nI (k + 1))), (6, .int al), (5, .int (nI k)), (0, .ref 0), (1, .int bi), (2, .int w), (3, .int s)]) dX10_mostLeft_108 (by decide) rfl ?_
        refine ez_iinc (v := (nI (k + 1))) (l' := [(5, .int ((nI (k + 1)))), (4, .int mo), (7, .int (nI (k + 1))), (6, .int al), (0, .ref 0), (1, .int bi), (2, .int w), (3, .int s)]) dX10_mostLeft_110 rfl (nI_1 _) (by decide) rfl ?_
        refine ez_goto (tgt := 6) dX10_mostLeft_113 (by decide) ?_
        refine ez_sub (l' := [(5, .int ((nI (k + 1)))), (4, .int mo), (0, .ref 0), (1, .int bi), (2, .int w), (3, .int s)]) [0, 1, 4, 5, 6, 7] rfl ?_
        exact ez_eq (l2 := [(5, .int (nI (k + 1))), (4, .int mo), (0, .ref 0), (1, .int bi), (2, .int w), (3, .int s)]) rfl rfl rfl rfl (ih (I2, mo, gn) ⟨hKn, ⟨hp9, hpp, by rw [zmx, zcl, if_neg (fun g => b10 (of_decide_eq_true g)), Nat.max_zero]; exact hex.2.2⟩⟩)
  · rintro ⟨Ia, mo, gg⟩ ⟨hKl, hex⟩
    have hKl : zK n kd I0 L0 R0 gg Ia L Rf T G Bf wt := hKl
    have hex : gg 109 = g 109 ∧ (∀ t, t < 6 → gg 110 t = z_pull (y t) w s) ∧ mo = nI (zmx (zcl (zbb bi) (fun q => z_pull (y q) w s)) 6) := hex
    show ez_P _ _ _ _ _ _ 6 [(5, .int (nI 6)), (4, .int mo), (0, .ref 0), (1, .int bi), (2, .int w), (3, .int s)] [] (n, sl, kd, Ia, L, Rf) _
    refine ez_iload (i := 5) dX10_mostLeft_6 rfl ?_
    refine ez_bipush (v := 6) dX10_mostLeft_8 (by decide) ?_
    refine ez_icmp_ge (tgt := 116) dX10_mostLeft_10 (by decide) (fun c13 => ?_) (fun c13 => absurd (by decide) c13)
    refine ez_iload (i := 4) dX10_mostLeft_116 rfl ?_
    refine ez_iret dX10_mostLeft_118 rfl rfl ?_
    rw [hex.2.2, zmx_same, ← a_lkm_z 6 (Nat.le_refl _)]; exact ⟨rfl, _, _, rfl, hKl, hex.1⟩
/-- the least so far, told by two: L is more than any -/
theorem z_am0 {a : Int32 × Int32} {ch ls v L : Int32} {c : Int32 × Int32} {st : Prop} (hL : ¬ L ≤ v) (h : (st ∧ a = (-1, 1000000) ∧ ls = L) ∨ (ch, ls) = a) (hle : ls ≤ v) : (ch, ls) = if v < a.2 then c else a := by
  rcases h with ⟨_, _, h⟩ | h
  · rw [h] at hle; exact absurd hle hL
  · rw [← h, if_neg (Int32.not_lt.mpr hle)]
theorem z_am1 {a : Int32 × Int32} {ch ls v L u : Int32} {st : Prop} (hv : v < 1000000) (h : (st ∧ a = (-1, 1000000) ∧ ls = L) ∨ (ch, ls) = a) (hle : ¬ ls ≤ v) : (u, v) = if v < a.2 then (u, v) else a := by
  rcases h with ⟨_, h, _⟩ | h
  · rw [h, if_pos hv]
  · rw [← h, if_pos (Int32.not_le.mp hle)]
theorem a_lkm_7 {bi : Int32} {y : Nat → Int32} {w s : Int32} : ¬ (7 ≤ a_lkm bi y w s 6) ∧ a_lkm bi y w s 6 < 1000000 := by
  obtain ⟨m, h1, h2⟩ := a_lkm_n (bi := bi) (y := y) (w := w) (s := s)
  rw [h2]
  exact ⟨Int32.not_le.mpr (nI_lt (b := 7) (by omega) (by decide)), nI_lt (b := 1000000) (by omega) (by decide)⟩
theorem c_looks_ok {n : Nat} {sl : Nat × Nat} {kd : Nat → Nat × Nat} {I : Nat → Nat → Int32} {L : Nat → Nat → Int64} {Rf : Nat → Nat → Option Nat} (d : Nat) {T : zT} {H : Nat} (hC : zC n kd I L Rf T) (hO : zOk H T) (hH : H ≤ 1000000000) {b0 : Nat} (hb : b0 < T.c) (f : Nat) (B : Nat → Int32) : ez_Q (f + 100) B f (fun _ => True) mX10_looks (d + 60) [.ref 0, .int (nI b0)] (n, sl, kd, I, L, Rf) (zpC n sl kd I L Rf (some (.int (s_looks T (nI b0)).1)) (s_looks T (nI b0)).2) := by
  have hF := hC.F; have hc7 := hO.c
  have hK0 : zK n kd I L Rf I I L Rf T none none false := zK.start hC
  refine ez_meth pn_X.2.2.2.2.2.2.2.2.2.2.1 (Nat.le_of_ble_eq_true rfl) ?_
  show ez_P _ _ _ _ _ _ 0 [(0, .ref 0), (1, .int (nI b0))] [] (n, sl, kd, I, L, Rf) _
  refine ez_aload_n (i := 0) dX10_looks_0 rfl rfl ?_
  refine ez_getR dX10_looks_1 flX10_33 (hF.lt (by decide)) (hF.kc (by decide) rfl) (hF.pt 21 rfl) ?_
  refine ez_iload_n (i := 1) dX10_looks_4 rfl rfl ?_
  refine ez_callV (M1 := mX7_has) (rest := []) dX10_looks_5 mlX10_155 mvX7_has rfl (hF.lt (by decide)) (hF.kc (by decide) rfl) (Nat.le_of_ble_eq_true rfl) rfl (zq_b1 (z_bin hb hO.c) (k_has (I := I) (L := L) (d + 59) hK0.C (nI b0))) eb_rok ?_
  rintro _ _ ⟨rfl, rfl⟩
  show ez_P _ _ _ _ _ _ 8 [(0, .ref 0), (1, .int (nI b0))] (.int 1 :: []) _ _
  refine ez_if_ne (tgt := 13) dX10_looks_8 (by decide) (fun c1 => ?_) (fun c1 => absurd (by decide) c1)
  refine ez_aload_n (i := 0) dX10_looks_13 rfl rfl ?_
  refine ez_iload_n (i := 1) dX10_looks_14 rfl rfl ?_
  refine ez_callVm (M1 := mX10_thoughtsLeft) (rest := []) dX10_looks_15 mlX10_354 mvX10_thoughtsLeft rfl (hF.lt (by decide)) (hF.kc (by decide) rfl) (Nat.le_of_ble_eq_true rfl) rfl (k_tle (T := T) (I := I) (L := L) (d + 29) hK0 hO hH hb (f + 94) _) zpKg_ok ?_
  rintro _ _ C4 _ ⟨rfl, I2, gy, rfl, hK3, hy⟩
  show ez_P _ _ _ _ _ _ 18 [(0, .ref 0), (1, .int (nI b0))] (.int (a_thk T (zsd T b0) 6) :: []) (n, sl, kd, I2, L, Rf) _
  have hK3 : zK n kd I L Rf gy I2 L Rf T none none false := hK3
  refine ez_istore_n (l' := [(2, .int (a_thk T (zsd T b0) 6)), (0, .ref 0), (1, .int (nI b0))]) dX10_looks_18 rfl (by decide) rfl ?_
  refine ez_iload_n (i := 2) dX10_looks_19 rfl rfl ?_
  refine ez_if_ne (tgt := 26) dX10_looks_20 (by decide) (fun c5 => ?_) (fun c5 => ?_)
  · skip
    have hne : ¬ a_thk T (zsd T b0) 6 = 0 := c5
    generalize hbi : a_thk T (zsd T b0) 6 = bi at *
    refine ez_iconst (v := 0) dX10_looks_26 (by decide) ?_
    refine ez_istore_n (l' := [(3, .int 0), (2, .int bi), (0, .ref 0), (1, .int (nI b0))]) dX10_looks_27 rfl (by decide) rfl ?_
    refine ez_bipush (v := 7) dX10_looks_28 (by decide) ?_
    refine ez_istore (l' := [(4, .int 7), (3, .int 0), (2, .int bi), (0, .ref 0), (1, .int (nI b0))]) dX10_looks_30 (by decide) rfl ?_
    refine ez_bipush (v := (-9)) dX10_looks_32 (by decide) ?_
    refine ez_istore (l' := [(5, .int ((-9))), (4, .int 7), (3, .int 0), (2, .int bi), (0, .ref 0), (1, .int (nI b0))]) dX10_looks_34 (by decide) rfl ?_
    refine ez_eq (l2 := [(5, .int ((nI 0 - 9))), (4, .int 7), (3, .int 0), (2, .int bi), (0, .ref 0), (1, .int (nI b0))]) (σ2 := (n, sl, kd, I2, L, Rf)) rfl (by rw [show (nI 0 - 9 : Int32) = -9 from by decide]) rfl rfl ?_
    refine ez_for 19 (fun k (a : (Nat → Nat → Int32) × (Nat → Nat → Int64) × Int32 × Int32 × (Nat → Nat → Int32)) => ([(5, .int ((nI k - 9))), (4, .int a.2.2.2.1), (3, .int a.2.2.1), (2, .int bi), (0, .ref 0), (1, .int (nI b0))], (n, sl, kd, a.1, a.2.1, Rf))) (fun k a => zK n kd I L Rf a.2.2.2.2 a.1 a.2.1 Rf T none none false ∧ ((k = 0 ∧ a_lkw bi (zsd T b0) k = (-1, 1000000) ∧ a.2.2.2.1 = 7) ∨ (a.2.2.1, a.2.2.2.1) = a_lkw bi (zsd T b0) k) ∧ ∀ t, t < 6 → a.2.2.2.2 109 t = (zsd T b0) t) ?_ ?_ 19 0 (I2, L, 0, 7, gy) (by omega) ⟨hK3, ⟨Or.inl ⟨rfl, rfl, rfl⟩, hy⟩⟩
    · rintro k ⟨Ia, La, ch, ls, gg⟩ hk ⟨hKl, hex⟩ ih
      have hKl : zK n kd I L Rf gg Ia La Rf T none none false := hKl
      have hex : ((k = 0 ∧ a_lkw bi (zsd T b0) k = (-1, 1000000) ∧ ls = 7) ∨ (ch, ls) = a_lkw bi (zsd T b0) k) ∧ ∀ t, t < 6 → gg 109 t = (zsd T b0) t := hex
      show ez_P _ _ _ _ _ _ 36 [(5, .int ((nI k - 9))), (4, .int ls), (3, .int ch), (2, .int bi), (0, .ref 0), (1, .int (nI b0))] [] (n, sl, kd, Ia, La, Rf) _
      refine ez_iload (i := 5) dX10_looks_36 rfl ?_
      refine ez_bipush (v := 9) dX10_looks_38 (by decide) ?_
      refine ez_icmp_gt (tgt := 99) dX10_looks_40 (by decide) (fun c6 => absurd c6 (Int32.not_lt.mpr (z_k9 k hk))) (fun c6 => ?_)
      refine ez_iconst (v := 0) dX10_looks_43 (by decide) ?_
      refine ez_istore (l' := [(6, .int 0), (5, .int ((nI k - 9))), (4, .int ls), (3, .int ch), (2, .int bi), (0, .ref 0), (1, .int (nI b0))]) dX10_looks_44 (by decide) rfl ?_
      refine ez_sub (l' := [(6, .int 0), (4, .int ls), (3, .int ch), (5, .int ((nI k - 9))), (2, .int bi), (0, .ref 0), (1, .int (nI b0))]) [0, 2, 3, 1, 4, 5, 6] rfl ?_
      refine ez_eq (l2 := [(6, .int (nI 0)), (4, .int ls), (3, .int ch), (5, .int ((nI k - 9))), (2, .int bi), (0, .ref 0), (1, .int (nI b0))]) (σ2 := (n, sl, kd, Ia, La, Rf)) rfl rfl rfl rfl ?_
      refine ez_for 10 (fun j (a : (Nat → Nat → Int32) × (Nat → Nat → Int64) × Int32 × Int32 × (Nat → Nat → Int32)) => ([(6, .int (nI j)), (4, .int a.2.2.2.1), (3, .int a.2.2.1), (5, .int ((nI k - 9))), (2, .int bi), (0, .ref 0), (1, .int (nI b0))], (n, sl, kd, a.1, a.2.1, Rf))) (fun j a => zK n kd I L Rf a.2.2.2.2 a.1 a.2.1 Rf T none none false ∧ (((k = 0 ∧ j = 0) ∧ a_lks bi (zsd T b0) k (a_lkw bi (zsd T b0) k) j = (-1, 1000000) ∧ a.2.2.2.1 = 7) ∨ (a.2.2.1, a.2.2.2.1) = a_lks bi (zsd T b0) k (a_lkw bi (zsd T b0) k) j) ∧ ∀ t, t < 6 → a.2.2.2.2 109 t = (zsd T b0) t) ?_ ?_ 10 0 (Ia, La, ch, ls, gg) (by omega) ⟨hKl, ⟨by rcases hex.1 with ⟨e1, e2, e3⟩ | h; exact Or.inl ⟨⟨e1, rfl⟩, e2, e3⟩; exact Or.inr h, hex.2⟩⟩
      · rintro j ⟨Ia2, La2, ch2, ls2, gg2⟩ hk2 ⟨hKl2, hex2⟩ ih2
        have hKl2 : zK n kd I L Rf gg2 Ia2 La2 Rf T none none false := hKl2
        have hex2 : (((k = 0 ∧ j = 0) ∧ a_lks bi (zsd T b0) k (a_lkw bi (zsd T b0) k) j = (-1, 1000000) ∧ ls2 = 7) ∨ (ch2, ls2) = a_lks bi (zsd T b0) k (a_lkw bi (zsd T b0) k) j) ∧ ∀ t, t < 6 → gg2 109 t = (zsd T b0) t := hex2
        show ez_P _ _ _ _ _ _ 46 [(6, .int (nI j)), (4, .int ls2), (3, .int ch2), (5, .int ((nI k - 9))), (2, .int bi), (0, .ref 0), (1, .int (nI b0))] [] (n, sl, kd, Ia2, La2, Rf) _
        refine ez_iload (i := 6) dX10_looks_46 rfl ?_
        refine ez_bipush (v := 9) dX10_looks_48 (by decide) ?_
        refine ez_icmp_gt (tgt := 93) dX10_looks_50 (by decide) (fun c7 => absurd c7 (Int32.not_lt.mpr (nI_le (b := 9) (by omega) (by decide)))) (fun c7 => ?_)
        refine ez_aload_n (i := 0) dX10_looks_53 rfl rfl ?_
        refine ez_iload_n (i := 2) dX10_looks_54 rfl rfl ?_
        refine ez_iload (i := 5) dX10_looks_55 rfl ?_
        refine ez_iload (i := 6) dX10_looks_57 rfl ?_
        refine ez_callV (M1 := mX10_mostLeft) (rest := []) dX10_looks_59 mlX10_357 mvX10_mostLeft rfl (hF.lt (by decide)) (hF.kc (by decide) rfl) (Nat.le_of_ble_eq_true rfl) rfl (k_mol (T := T) (I := Ia2) (L := La2) (d + 39) hKl2 hO hH (y := (zsd T b0)) hex2.2 bi (nI k - 9) (nI j)) zpKg_ok ?_
        rintro _ _ ⟨rfl, I8, gm, rfl, hK9, hgm⟩
        show ez_P _ _ _ _ _ _ 62 [(6, .int (nI j)), (4, .int ls2), (3, .int ch2), (5, .int ((nI k - 9))), (2, .int bi), (0, .ref 0), (1, .int (nI b0))] (.int (a_lkm bi (zsd T b0) (nI k - 9) (nI j) 6) :: []) (n, sl, kd, I8, La2, Rf) _
        have hK9 : zK n kd I L Rf gm I8 La2 Rf T none none false := hK9
        refine ez_istore (l' := [(7, .int (a_lkm bi (zsd T b0) (nI k - 9) (nI j) 6)), (6, .int (nI j)), (4, .int ls2), (3, .int ch2), (5, .int ((nI k - 9))), (2, .int bi), (0, .ref 0), (1, .int (nI b0))]) dX10_looks_62 (by decide) rfl ?_
        refine ez_iload (i := 7) dX10_looks_64 rfl ?_
        refine ez_iload (i := 4) dX10_looks_66 rfl ?_
        refine ez_icmp_ge (tgt := 87) dX10_looks_68 (by decide) (fun c10 => ?_) (fun c10 => ?_)
        · skip
          refine ez_iinc (v := (nI (j + 1))) (l' := [(6, .int ((nI (j + 1)))), (7, .int (a_lkm bi (zsd T b0) (nI k - 9) (nI j) 6)), (4, .int ls2), (3, .int ch2), (5, .int ((nI k - 9))), (2, .int bi), (0, .ref 0), (1, .int (nI b0))]) dX10_looks_87 rfl (nI_1 _) (by decide) rfl ?_
          refine ez_goto (tgt := 46) dX10_looks_90 (by decide) ?_
          refine ez_sub (l' := [(6, .int ((nI (j + 1)))), (4, .int ls2), (3, .int ch2), (5, .int ((nI k - 9))), (2, .int bi), (0, .ref 0), (1, .int (nI b0))]) [0, 2, 3, 4, 5, 6, 7] rfl ?_
          exact ez_eq (l2 := [(6, .int (nI (j + 1))), (4, .int ls2), (3, .int ch2), (5, .int ((nI k - 9))), (2, .int bi), (0, .ref 0), (1, .int (nI b0))]) rfl rfl rfl rfl (ih2 (I8, La2, ch2, ls2, gm) ⟨hK9, ⟨Or.inr (by rw [a_lks, b_lks]; exact z_am0 a_lkm_7.1 hex2.1 c10), fun t ht => by show gm 109 t = _; rw [hgm]; exact hex2.2 t ht⟩⟩)
        · skip
          refine ez_iload (i := 7) dX10_looks_71 rfl ?_
          refine ez_istore (l' := [(4, .int (a_lkm bi (zsd T b0) (nI k - 9) (nI j) 6)), (7, .int (a_lkm bi (zsd T b0) (nI k - 9) (nI j) 6)), (6, .int (nI j)), (3, .int ch2), (5, .int ((nI k - 9))), (2, .int bi), (0, .ref 0), (1, .int (nI b0))]) dX10_looks_73 (by decide) rfl ?_
          refine ez_bipush (v := 10) dX10_looks_75 (by decide) ?_
          refine ez_bipush (v := 9) dX10_looks_77 (by decide) ?_
          refine ez_iload (i := 5) dX10_looks_79 rfl ?_
          refine ez_iadd dX10_looks_81 ?_
          refine ez_topE (y := nI k) (z_99 k) ?_
          refine ez_imul dX10_looks_82 ?_
          refine ez_topE (y := nI (10 * k)) (nI_mul _ _) ?_
          refine ez_iload (i := 6) dX10_looks_83 rfl ?_
          refine ez_iadd dX10_looks_85 ?_
          refine ez_topE (y := nI ((10 * k) + j)) (nI_add _ _) ?_
          refine ez_istore_n (l' := [(3, .int (nI ((10 * k) + j))), (4, .int (a_lkm bi (zsd T b0) (nI k - 9) (nI j) 6)), (7, .int (a_lkm bi (zsd T b0) (nI k - 9) (nI j) 6)), (6, .int (nI j)), (5, .int ((nI k - 9))), (2, .int bi), (0, .ref 0), (1, .int (nI b0))]) dX10_looks_86 rfl (by decide) rfl ?_
          refine ez_iinc (v := (nI (j + 1))) (l' := [(6, .int ((nI (j + 1)))), (3, .int (nI ((10 * k) + j))), (4, .int (a_lkm bi (zsd T b0) (nI k - 9) (nI j) 6)), (7, .int (a_lkm bi (zsd T b0) (nI k - 9) (nI j) 6)), (5, .int ((nI k - 9))), (2, .int bi), (0, .ref 0), (1, .int (nI b0))]) dX10_looks_87 rfl (nI_1 _) (by decide) rfl ?_
          refine ez_goto (tgt := 46) dX10_looks_90 (by decide) ?_
          refine ez_sub (l' := [(6, .int ((nI (j + 1)))), (4, .int (a_lkm bi (zsd T b0) (nI k - 9) (nI j) 6)), (3, .int (nI ((10 * k) + j))), (5, .int ((nI k - 9))), (2, .int bi), (0, .ref 0), (1, .int (nI b0))]) [0, 2, 1, 4, 5, 6, 7] rfl ?_
          exact ez_eq (l2 := [(6, .int (nI (j + 1))), (4, .int (a_lkm bi (zsd T b0) (nI k - 9) (nI j) 6)), (3, .int (nI ((10 * k) + j))), (5, .int ((nI k - 9))), (2, .int bi), (0, .ref 0), (1, .int (nI b0))]) rfl rfl rfl rfl (ih2 (I8, La2, nI ((10 * k) + j), a_lkm bi (zsd T b0) (nI k - 9) (nI j) 6, gm) ⟨hK9, ⟨Or.inr (by rw [a_lks, b_lks]; exact z_am1 a_lkm_7.2 hex2.1 c10), fun t ht => by show gm 109 t = _; rw [hgm]; exact hex2.2 t ht⟩⟩)
      · rintro ⟨Ia2, La2, ch2, ls2, gg2⟩ ⟨hKl2, hex2⟩
        have hKl2 : zK n kd I L Rf gg2 Ia2 La2 Rf T none none false := hKl2
        have hex2 : (((k = 0 ∧ 10 = 0) ∧ a_lks bi (zsd T b0) k (a_lkw bi (zsd T b0) k) 10 = (-1, 1000000) ∧ ls2 = 7) ∨ (ch2, ls2) = a_lks bi (zsd T b0) k (a_lkw bi (zsd T b0) k) 10) ∧ ∀ t, t < 6 → gg2 109 t = (zsd T b0) t := hex2
        show ez_P _ _ _ _ _ _ 46 [(6, .int (nI 10)), (4, .int ls2), (3, .int ch2), (5, .int ((nI k - 9))), (2, .int bi), (0, .ref 0), (1, .int (nI b0))] [] (n, sl, kd, Ia2, La2, Rf) _
        refine ez_iload (i := 6) dX10_looks_46 rfl ?_
        refine ez_bipush (v := 9) dX10_looks_48 (by decide) ?_
        refine ez_icmp_gt (tgt := 93) dX10_looks_50 (by decide) (fun c11 => ?_) (fun c11 => absurd (by decide) c11)
        refine ez_iinc (v := (nI (k + 1) - 9)) (l' := [(5, .int ((nI (k + 1) - 9))), (6, .int (nI 10)), (4, .int ls2), (3, .int ch2), (2, .int bi), (0, .ref 0), (1, .int (nI b0))]) dX10_looks_93 rfl (z_mc _ _) (by decide) rfl ?_
        refine ez_goto (tgt := 36) dX10_looks_96 (by decide) ?_
        refine ez_sub (l' := [(5, .int ((nI (k + 1) - 9))), (4, .int ls2), (3, .int ch2), (2, .int bi), (0, .ref 0), (1, .int (nI b0))]) [0, 2, 3, 4, 5, 6] rfl ?_
        exact ez_eq (l2 := [(5, .int ((nI (k + 1) - 9))), (4, .int ls2), (3, .int ch2), (2, .int bi), (0, .ref 0), (1, .int (nI b0))]) rfl rfl rfl rfl (ih (Ia2, La2, ch2, ls2, gg2) ⟨hKl2, ⟨Or.inr (by rcases hex2.1 with ⟨⟨_, e⟩, _⟩ | h; exact absurd e (by decide); rw [a_lkw, b_lkw]; exact h), hex2.2⟩⟩)
    · rintro ⟨Ia, La, ch, ls, gg⟩ ⟨hKl, hex⟩
      have hKl : zK n kd I L Rf gg Ia La Rf T none none false := hKl
      have hex : ((19 = 0 ∧ a_lkw bi (zsd T b0) 19 = (-1, 1000000) ∧ ls = 7) ∨ (ch, ls) = a_lkw bi (zsd T b0) 19) ∧ ∀ t, t < 6 → gg 109 t = (zsd T b0) t := hex
      show ez_P _ _ _ _ _ _ 36 [(5, .int ((nI 19 - 9))), (4, .int ls), (3, .int ch), (2, .int bi), (0, .ref 0), (1, .int (nI b0))] [] (n, sl, kd, Ia, La, Rf) _
      refine ez_iload (i := 5) dX10_looks_36 rfl ?_
      refine ez_bipush (v := 9) dX10_looks_38 (by decide) ?_
      refine ez_icmp_gt (tgt := 99) dX10_looks_40 (by decide) (fun c12 => ?_) (fun c12 => absurd (by decide) c12)
      refine ez_aload_n (i := 0) dX10_looks_99 rfl rfl ?_
      refine ez_getR dX10_looks_100 flX10_19 (hF.lt (by decide)) (hF.kc (by decide) rfl) (hF.pt 3 rfl) ?_
      refine ez_iload (i := 4) dX10_looks_103 rfl ?_
      refine ez_callV (M1 := mX4_tell) (rest := []) dX10_looks_105 mlX10_285 mvX4_tell rfl (hF.lt (by decide)) (hF.kc (by decide) rfl) (Nat.le_of_ble_eq_true rfl) rfl (y_X4_tell (I := Ia) (L := La) (d + 58) hF ls) z_tok ?_
      rintro _ _ ⟨rfl, I13, L14, rfl, hr15, ho16⟩
      show ez_P _ _ _ _ _ _ 108 [(5, .int ((nI 19 - 9))), (4, .int ls), (3, .int ch), (2, .int bi), (0, .ref 0), (1, .int (nI b0))] [] (n, sl, kd, I13, L14, Rf) _
      have hK17 : zK n kd I L Rf gg I13 L14 Rf (T.w_rw [ls.toInt64]) none none false := by exact hKl.tell hr15 ho16
      refine ez_iload_n (i := 3) dX10_looks_108 rfl rfl ?_
      refine ez_iret dX10_looks_109 rfl rfl ?_
      have hac : (ch, ls) = a_lkw bi (zsd T b0) 19 := by rcases hex.1 with ⟨e, _⟩ | h; exact absurd e (by decide); exact h
      rw [show s_looks T (nI b0) = (ch, T.w_rw [ls.toInt64]) from by unfold s_looks; rw [if_pos ⟨(z_bin hb hO.c).1, (z_bin hb hO.c).2⟩, nI_clamp (by omega), hbi, if_neg hne, ← hac]]
      exact hK17.end
  · skip
    refine ez_bipush (v := (-2)) dX10_looks_23 (by decide) ?_
    refine ez_iret dX10_looks_25 rfl rfl ?_
    rw [show s_looks T (nI b0) = (-2, T) from by unfold s_looks; rw [if_pos ⟨(z_bin hb hO.c).1, (z_bin hb hO.c).2⟩, nI_clamp (by omega), if_pos (Classical.not_not.mp c5)]]
    exact hK3.end
theorem c_looks_no {n : Nat} {sl : Nat × Nat} {kd : Nat → Nat × Nat} {I : Nat → Nat → Int32} {L : Nat → Nat → Int64} {Rf : Nat → Nat → Option Nat} (d : Nat) {T : zT} {H : Nat} (hC : zC n kd I L Rf T) (hO : zOk H T) (hH : H ≤ 1000000000) {v : Int32} (hn : ¬ (0 ≤ v ∧ v < nI T.c)) (f : Nat) (B : Nat → Int32) : ez_Q (f + 100) B f (fun _ => True) mX10_looks (d + 60) [.ref 0, .int v] (n, sl, kd, I, L, Rf) (zpC n sl kd I L Rf (some (.int (s_looks T v).1)) (s_looks T v).2) := by
  have hF := hC.F; have hc7 := hO.c
  have hK0 : zK n kd I L Rf I I L Rf T none none false := zK.start hC
  have hsp : s_looks T v = ((-1), T) := (by unfold s_looks; rw [if_neg hn])
  rw [hsp]
  refine ez_meth pn_X.2.2.2.2.2.2.2.2.2.2.1 (Nat.le_of_ble_eq_true rfl) ?_
  show ez_P _ _ _ _ _ _ 0 [(0, .ref 0), (1, .int v)] [] (n, sl, kd, I, L, Rf) _
  refine ez_aload_n (i := 0) dX10_looks_0 rfl rfl ?_
  refine ez_getR dX10_looks_1 flX10_33 (hF.lt (by decide)) (hF.kc (by decide) rfl) (hF.pt 21 rfl) ?_
  refine ez_iload_n (i := 1) dX10_looks_4 rfl rfl ?_
  refine ez_callV (M1 := mX7_has) (rest := []) dX10_looks_5 mlX10_155 mvX7_has rfl (hF.lt (by decide)) (hF.kc (by decide) rfl) (Nat.le_of_ble_eq_true rfl) rfl (zq_b0 hn (k_has (I := I) (L := L) (d + 59) hK0.C v)) eb_rok ?_
  rintro _ _ ⟨rfl, rfl⟩
  show ez_P _ _ _ _ _ _ 8 [(0, .ref 0), (1, .int v)] (.int 0 :: []) _ _
  refine ez_if_ne (tgt := 13) dX10_looks_8 (by decide) (fun c1 => absurd c1 (by decide)) (fun c1 => ?_)
  refine ez_iconst (v := (-1)) dX10_looks_11 (by decide) ?_
  refine ez_iret dX10_looks_12 rfl rfl ?_
  exact hK0.end
theorem c_looks {n : Nat} {sl : Nat × Nat} {kd : Nat → Nat × Nat} {I : Nat → Nat → Int32} {L : Nat → Nat → Int64} {Rf : Nat → Nat → Option Nat} (d : Nat) {T : zT} {H : Nat} (hC : zC n kd I L Rf T) (hO : zOk H T) (hH : H ≤ 1000000000) (v : Int32) (f : Nat) (B : Nat → Int32) : ez_Q (f + 100) B f (fun _ => True) mX10_looks (d + 60) [.ref 0, .int v] (n, sl, kd, I, L, Rf) (zpC n sl kd I L Rf (some (.int (s_looks T v).1)) (s_looks T v).2) := by
  by_cases hn : 0 ≤ v ∧ v < nI T.c
  · obtain ⟨b0, hb, rfl⟩ := pk_of (by have := hO.c; omega) hn.1 hn.2
    exact c_looks_ok d hC hO hH hb f B
  · exact c_looks_no d hC hO hH hn f B
theorem k_isSo_0 {n : Nat} {sl : Nat × Nat} {kd : Nat → Nat × Nat} {I : Nat → Nat → Int32} {L : Nat → Nat → Int64} {Rf : Nat → Nat → Option Nat} (d : Nat) {T : zT} {H : Nat} {I0 g : Nat → Nat → Int32} {L0 : Nat → Nat → Int64} {R0 : Nat → Nat → Option Nat} {G Bf : Option (Nat → Int32)} (hK : zK n kd I0 L0 R0 g I L Rf T G Bf true) (hO : zOk H T) (hH : H ≤ 1000000000) {b : Nat} (hb : b < T.c) (v : Int32) : zq mX10_isSo (d + 20) [.ref 0, .int (nI b), .int 0, .int v] (n, sl, kd, I, L, Rf) (eb_b (zsoB T b 0 v = true) (n, sl, kd, I, L, Rf)) := by
  have hC := hK.C; have hF := hC.F; have hc7 := hO.c
  intro f B
  refine ez_meth pn_X.2.2.2.2.2.2.2.2.2.2.1 (Nat.le_of_ble_eq_true rfl) ?_
  show ez_P _ _ _ _ _ _ 0 [(0, .ref 0), (1, .int (nI b)), (2, .int 0), (3, .int v)] [] (n, sl, kd, I, L, Rf) _
  refine ez_iload_n (i := 2) dX10_isSo_0 rfl rfl ?_
  refine ez_tin (off := 31) (tgt := 32) dX10_isSo_1 (by decide) (by decide) rfl (by decide) ?_
  refine ez_aload_n (i := 0) dX10_isSo_32 rfl rfl ?_
  refine ez_getR dX10_isSo_33 flX10_33 (hF.lt (by decide)) (hF.kc (by decide) rfl) (hF.pt 21 rfl) ?_
  refine ez_getR dX10_isSo_36 flX10_165 (hF.lt (by decide)) (hF.kc (by decide) rfl) (hF.pt 18 rfl) ?_
  refine ez_iload_n (i := 1) dX10_isSo_39 rfl rfl ?_
  refine ez_iaN (k := b) dX10_isSo_40 (hF.lt (by decide)) (hF.ka (by decide) rfl) (by omega) (by decide) ?_
  refine ez_topE (y := T.x b) (hK.C.sh.g _ (by omega)) ?_
  refine ez_iload_n (i := 3) dX10_isSo_41 rfl rfl ?_
  refine ez_icmp_lt (tgt := 49) dX10_isSo_42 (by decide) (fun c1 => ?_) (fun c1 => ?_)
  · skip
    refine ez_iconst (v := 0) dX10_isSo_49 (by decide) ?_
    refine ez_iret dX10_isSo_50 rfl (by decide) ?_
    exact ⟨rfl, Or.inr ⟨by show ¬ (zsoB T b 0 v = true); unfold zsoB; rw [if_pos rfl]; rw [decide_eq_true_eq]; exact fun g => g c1, rfl⟩⟩
  · skip
    refine ez_iconst (v := 1) dX10_isSo_45 (by decide) ?_
    refine ez_goto (tgt := 50) dX10_isSo_46 (by decide) ?_
    refine ez_iret dX10_isSo_50 rfl (by decide) ?_
    exact ⟨rfl, Or.inl ⟨by show (zsoB T b 0 v = true); unfold zsoB; rw [if_pos rfl]; rw [decide_eq_true_eq]; exact c1, rfl⟩⟩
theorem k_isSo_1 {n : Nat} {sl : Nat × Nat} {kd : Nat → Nat × Nat} {I : Nat → Nat → Int32} {L : Nat → Nat → Int64} {Rf : Nat → Nat → Option Nat} (d : Nat) {T : zT} {H : Nat} {I0 g : Nat → Nat → Int32} {L0 : Nat → Nat → Int64} {R0 : Nat → Nat → Option Nat} {G Bf : Option (Nat → Int32)} (hK : zK n kd I0 L0 R0 g I L Rf T G Bf true) (hO : zOk H T) (hH : H ≤ 1000000000) {b : Nat} (hb : b < T.c) (v : Int32) : zq mX10_isSo (d + 20) [.ref 0, .int (nI b), .int 1, .int v] (n, sl, kd, I, L, Rf) (eb_b (zsoB T b 1 v = true) (n, sl, kd, I, L, Rf)) := by
  have hC := hK.C; have hF := hC.F; have hc7 := hO.c
  intro f B
  refine ez_meth pn_X.2.2.2.2.2.2.2.2.2.2.1 (Nat.le_of_ble_eq_true rfl) ?_
  show ez_P _ _ _ _ _ _ 0 [(0, .ref 0), (1, .int (nI b)), (2, .int 1), (3, .int v)] [] (n, sl, kd, I, L, Rf) _
  refine ez_iload_n (i := 2) dX10_isSo_0 rfl rfl ?_
  refine ez_tin (off := 50) (tgt := 51) dX10_isSo_1 (by decide) (by decide) rfl (by decide) ?_
  refine ez_aload_n (i := 0) dX10_isSo_51 rfl rfl ?_
  refine ez_getR dX10_isSo_52 flX10_33 (hF.lt (by decide)) (hF.kc (by decide) rfl) (hF.pt 21 rfl) ?_
  refine ez_getR dX10_isSo_55 flX10_168 (hF.lt (by decide)) (hF.kc (by decide) rfl) (hF.pt 19 rfl) ?_
  refine ez_iload_n (i := 1) dX10_isSo_58 rfl rfl ?_
  refine ez_iaN (k := b) dX10_isSo_59 (hF.lt (by decide)) (hF.ka (by decide) rfl) (by omega) (by decide) ?_
  refine ez_topE (y := T.x (7 + b)) (hK.C.sh.t _ (by omega)) ?_
  refine ez_iload_n (i := 3) dX10_isSo_60 rfl rfl ?_
  refine ez_icmp_ne (tgt := 68) dX10_isSo_61 (by decide) (fun c1 => ?_) (fun c1 => ?_)
  · skip
    refine ez_iconst (v := 0) dX10_isSo_68 (by decide) ?_
    refine ez_iret dX10_isSo_69 rfl (by decide) ?_
    exact ⟨rfl, Or.inr ⟨by show ¬ (zsoB T b 1 v = true); unfold zsoB; rw [if_neg (by decide)]; rw [if_pos rfl]; rw [decide_eq_true_eq]; exact c1, rfl⟩⟩
  · skip
    refine ez_iconst (v := 1) dX10_isSo_64 (by decide) ?_
    refine ez_goto (tgt := 69) dX10_isSo_65 (by decide) ?_
    refine ez_iret dX10_isSo_69 rfl (by decide) ?_
    exact ⟨rfl, Or.inl ⟨by show (zsoB T b 1 v = true); unfold zsoB; rw [if_neg (by decide)]; rw [if_pos rfl]; rw [decide_eq_true_eq]; exact Classical.not_not.mp c1, rfl⟩⟩
theorem k_isSo_2 {n : Nat} {sl : Nat × Nat} {kd : Nat → Nat × Nat} {I : Nat → Nat → Int32} {L : Nat → Nat → Int64} {Rf : Nat → Nat → Option Nat} (d : Nat) {T : zT} {H : Nat} {I0 g : Nat → Nat → Int32} {L0 : Nat → Nat → Int64} {R0 : Nat → Nat → Option Nat} {G Bf : Option (Nat → Int32)} (hK : zK n kd I0 L0 R0 g I L Rf T G Bf true) (hO : zOk H T) (hH : H ≤ 1000000000) {b : Nat} (hb : b < T.c) (v : Int32) : zq mX10_isSo (d + 20) [.ref 0, .int (nI b), .int 2, .int v] (n, sl, kd, I, L, Rf) (eb_b (zsoB T b 2 v = true) (n, sl, kd, I, L, Rf)) := by
  have hC := hK.C; have hF := hC.F; have hc7 := hO.c
  intro f B
  refine ez_meth pn_X.2.2.2.2.2.2.2.2.2.2.1 (Nat.le_of_ble_eq_true rfl) ?_
  show ez_P _ _ _ _ _ _ 0 [(0, .ref 0), (1, .int (nI b)), (2, .int 2), (3, .int v)] [] (n, sl, kd, I, L, Rf) _
  refine ez_iload_n (i := 2) dX10_isSo_0 rfl rfl ?_
  refine ez_tin (off := 69) (tgt := 70) dX10_isSo_1 (by decide) (by decide) rfl (by decide) ?_
  refine ez_aload_n (i := 0) dX10_isSo_70 rfl rfl ?_
  refine ez_getR dX10_isSo_71 flX10_33 (hF.lt (by decide)) (hF.kc (by decide) rfl) (hF.pt 21 rfl) ?_
  refine ez_getR dX10_isSo_74 flX10_171 (hF.lt (by decide)) (hF.kc (by decide) rfl) (hF.pt 20 rfl) ?_
  refine ez_iload_n (i := 1) dX10_isSo_77 rfl rfl ?_
  refine ez_iaN (k := b) dX10_isSo_78 (hF.lt (by decide)) (hF.ka (by decide) rfl) (by omega) (by decide) ?_
  refine ez_topE (y := T.x (14 + b)) (hK.C.sh.p _ (by omega)) ?_
  refine ez_if_le (tgt := 86) dX10_isSo_79 (by decide) (fun c1 => ?_) (fun c1 => ?_)
  · skip
    refine ez_iconst (v := 0) dX10_isSo_86 (by decide) ?_
    refine ez_iload_n (i := 3) dX10_isSo_87 rfl rfl ?_
    refine ez_iconst (v := 1) dX10_isSo_88 (by decide) ?_
    refine ez_icmp_ne (tgt := 96) dX10_isSo_89 (by decide) (fun c2 => ?_) (fun c2 => ?_)
    · skip
      refine ez_iconst (v := 0) dX10_isSo_96 (by decide) ?_
      refine ez_icmp_ne (tgt := 104) dX10_isSo_97 (by decide) (fun c3 => absurd c3 (by decide)) (fun c3 => ?_)
      refine ez_iconst (v := 1) dX10_isSo_100 (by decide) ?_
      refine ez_goto (tgt := 105) dX10_isSo_101 (by decide) ?_
      refine ez_iret dX10_isSo_105 rfl (by decide) ?_
      exact ⟨rfl, Or.inl ⟨by show (zsoB T b 2 v = true); unfold zsoB; rw [if_neg (by decide)]; rw [if_neg (by decide)]; rw [if_pos rfl]; rw [decide_eq_true_eq]; first | exact iff_of_true (by assumption) (Classical.not_not.mp (by assumption)) | exact iff_of_false (fun g => g (by assumption)) (by assumption) | exact (fun g => absurd (g.mp (by assumption)) (by assumption)) | exact (fun g => absurd (g.mpr (Classical.not_not.mp (by assumption))) (fun k => k (by assumption))), rfl⟩⟩
    · skip
      refine ez_iconst (v := 1) dX10_isSo_92 (by decide) ?_
      refine ez_goto (tgt := 97) dX10_isSo_93 (by decide) ?_
      refine ez_icmp_ne (tgt := 104) dX10_isSo_97 (by decide) (fun c4 => ?_) (fun c4 => absurd (by decide) c4)
      refine ez_iconst (v := 0) dX10_isSo_104 (by decide) ?_
      refine ez_iret dX10_isSo_105 rfl (by decide) ?_
      exact ⟨rfl, Or.inr ⟨by show ¬ (zsoB T b 2 v = true); unfold zsoB; rw [if_neg (by decide)]; rw [if_neg (by decide)]; rw [if_pos rfl]; rw [decide_eq_true_eq]; first | exact iff_of_true (by assumption) (Classical.not_not.mp (by assumption)) | exact iff_of_false (fun g => g (by assumption)) (by assumption) | exact (fun g => absurd (g.mp (by assumption)) (by assumption)) | exact (fun g => absurd (g.mpr (Classical.not_not.mp (by assumption))) (fun k => k (by assumption))), rfl⟩⟩
  · skip
    refine ez_iconst (v := 1) dX10_isSo_82 (by decide) ?_
    refine ez_goto (tgt := 87) dX10_isSo_83 (by decide) ?_
    refine ez_iload_n (i := 3) dX10_isSo_87 rfl rfl ?_
    refine ez_iconst (v := 1) dX10_isSo_88 (by decide) ?_
    refine ez_icmp_ne (tgt := 96) dX10_isSo_89 (by decide) (fun c5 => ?_) (fun c5 => ?_)
    · skip
      refine ez_iconst (v := 0) dX10_isSo_96 (by decide) ?_
      refine ez_icmp_ne (tgt := 104) dX10_isSo_97 (by decide) (fun c6 => ?_) (fun c6 => absurd (by decide) c6)
      refine ez_iconst (v := 0) dX10_isSo_104 (by decide) ?_
      refine ez_iret dX10_isSo_105 rfl (by decide) ?_
      exact ⟨rfl, Or.inr ⟨by show ¬ (zsoB T b 2 v = true); unfold zsoB; rw [if_neg (by decide)]; rw [if_neg (by decide)]; rw [if_pos rfl]; rw [decide_eq_true_eq]; first | exact iff_of_true (by assumption) (Classical.not_not.mp (by assumption)) | exact iff_of_false (fun g => g (by assumption)) (by assumption) | exact (fun g => absurd (g.mp (by assumption)) (by assumption)) | exact (fun g => absurd (g.mpr (Classical.not_not.mp (by assumption))) (fun k => k (by assumption))), rfl⟩⟩
    · skip
      refine ez_iconst (v := 1) dX10_isSo_92 (by decide) ?_
      refine ez_goto (tgt := 97) dX10_isSo_93 (by decide) ?_
      refine ez_icmp_ne (tgt := 104) dX10_isSo_97 (by decide) (fun c7 => absurd c7 (by decide)) (fun c7 => ?_)
      refine ez_iconst (v := 1) dX10_isSo_100 (by decide) ?_
      refine ez_goto (tgt := 105) dX10_isSo_101 (by decide) ?_
      refine ez_iret dX10_isSo_105 rfl (by decide) ?_
      exact ⟨rfl, Or.inl ⟨by show (zsoB T b 2 v = true); unfold zsoB; rw [if_neg (by decide)]; rw [if_neg (by decide)]; rw [if_pos rfl]; rw [decide_eq_true_eq]; first | exact iff_of_true (by assumption) (Classical.not_not.mp (by assumption)) | exact iff_of_false (fun g => g (by assumption)) (by assumption) | exact (fun g => absurd (g.mp (by assumption)) (by assumption)) | exact (fun g => absurd (g.mpr (Classical.not_not.mp (by assumption))) (fun k => k (by assumption))), rfl⟩⟩
theorem k_isSo_3 {n : Nat} {sl : Nat × Nat} {kd : Nat → Nat × Nat} {I : Nat → Nat → Int32} {L : Nat → Nat → Int64} {Rf : Nat → Nat → Option Nat} (d : Nat) {T : zT} {H : Nat} {I0 g : Nat → Nat → Int32} {L0 : Nat → Nat → Int64} {R0 : Nat → Nat → Option Nat} {G Bf : Option (Nat → Int32)} (hK : zK n kd I0 L0 R0 g I L Rf T G Bf true) (hO : zOk H T) (hH : H ≤ 1000000000) {b : Nat} (hb : b < T.c) (v : Int32) : zq mX10_isSo (d + 20) [.ref 0, .int (nI b), .int 3, .int v] (n, sl, kd, I, L, Rf) (eb_b (zsoB T b 3 v = true) (n, sl, kd, I, L, Rf)) := by
  have hC := hK.C; have hF := hC.F; have hc7 := hO.c
  intro f B
  refine ez_meth pn_X.2.2.2.2.2.2.2.2.2.2.1 (Nat.le_of_ble_eq_true rfl) ?_
  show ez_P _ _ _ _ _ _ 0 [(0, .ref 0), (1, .int (nI b)), (2, .int 3), (3, .int v)] [] (n, sl, kd, I, L, Rf) _
  refine ez_iload_n (i := 2) dX10_isSo_0 rfl rfl ?_
  refine ez_tin (off := 105) (tgt := 106) dX10_isSo_1 (by decide) (by decide) rfl (by decide) ?_
  refine ez_aload_n (i := 0) dX10_isSo_106 rfl rfl ?_
  refine ez_getR dX10_isSo_107 flX10_33 (hF.lt (by decide)) (hF.kc (by decide) rfl) (hF.pt 21 rfl) ?_
  refine ez_getR dX10_isSo_110 flX10_171 (hF.lt (by decide)) (hF.kc (by decide) rfl) (hF.pt 20 rfl) ?_
  refine ez_iload_n (i := 1) dX10_isSo_113 rfl rfl ?_
  refine ez_iaN (k := b) dX10_isSo_114 (hF.lt (by decide)) (hF.ka (by decide) rfl) (by omega) (by decide) ?_
  refine ez_topE (y := T.x (14 + b)) (hK.C.sh.p _ (by omega)) ?_
  refine ez_abs dX10_isSo_115 xmX10_287 (Nat.le_of_ble_eq_true rfl) ?_
  refine ez_topE (y := z_ab (T.x (14 + b))) rfl ?_
  refine ez_iload_n (i := 3) dX10_isSo_118 rfl rfl ?_
  refine ez_icmp_ne (tgt := 126) dX10_isSo_119 (by decide) (fun c1 => ?_) (fun c1 => ?_)
  · skip
    refine ez_iconst (v := 0) dX10_isSo_126 (by decide) ?_
    refine ez_iret dX10_isSo_127 rfl (by decide) ?_
    exact ⟨rfl, Or.inr ⟨by show ¬ (zsoB T b 3 v = true); unfold zsoB; rw [if_neg (by decide)]; rw [if_neg (by decide)]; rw [if_neg (by decide)]; rw [if_pos rfl]; rw [decide_eq_true_eq]; exact c1, rfl⟩⟩
  · skip
    refine ez_iconst (v := 1) dX10_isSo_122 (by decide) ?_
    refine ez_goto (tgt := 127) dX10_isSo_123 (by decide) ?_
    refine ez_iret dX10_isSo_127 rfl (by decide) ?_
    exact ⟨rfl, Or.inl ⟨by show (zsoB T b 3 v = true); unfold zsoB; rw [if_neg (by decide)]; rw [if_neg (by decide)]; rw [if_neg (by decide)]; rw [if_pos rfl]; rw [decide_eq_true_eq]; exact Classical.not_not.mp c1, rfl⟩⟩
theorem k_isSo_4 {n : Nat} {sl : Nat × Nat} {kd : Nat → Nat × Nat} {I : Nat → Nat → Int32} {L : Nat → Nat → Int64} {Rf : Nat → Nat → Option Nat} (d : Nat) {T : zT} {H : Nat} {I0 g : Nat → Nat → Int32} {L0 : Nat → Nat → Int64} {R0 : Nat → Nat → Option Nat} {G Bf : Option (Nat → Int32)} (hK : zK n kd I0 L0 R0 g I L Rf T G Bf true) (hO : zOk H T) (hH : H ≤ 1000000000) {b : Nat} (hb : b < T.c) (v : Int32) : zq mX10_isSo (d + 20) [.ref 0, .int (nI b), .int 4, .int v] (n, sl, kd, I, L, Rf) (eb_b (zsoB T b 4 v = true) (n, sl, kd, I, L, Rf)) := by
  have hC := hK.C; have hF := hC.F; have hc7 := hO.c
  intro f B
  refine ez_meth pn_X.2.2.2.2.2.2.2.2.2.2.1 (Nat.le_of_ble_eq_true rfl) ?_
  show ez_P _ _ _ _ _ _ 0 [(0, .ref 0), (1, .int (nI b)), (2, .int 4), (3, .int v)] [] (n, sl, kd, I, L, Rf) _
  refine ez_iload_n (i := 2) dX10_isSo_0 rfl rfl ?_
  refine ez_tout (tgt := 128) dX10_isSo_1 (by decide) (by decide) ?_
  refine ez_aload_n (i := 0) dX10_isSo_128 rfl rfl ?_
  refine ez_getR dX10_isSo_129 flX10_91 (hF.lt (by decide)) (hF.kc (by decide) rfl) (hF.pt 103 rfl) ?_
  refine ez_iload_n (i := 1) dX10_isSo_132 rfl rfl ?_
  refine ez_iaN (k := b) dX10_isSo_133 (hF.lt (by decide)) (hF.ka (by decide) rfl) (by omega) (by decide) ?_
  refine ez_topE (y := zwt T T.x b) (hK.lo rfl _ (by omega)) ?_
  refine ez_iload_n (i := 3) dX10_isSo_134 rfl rfl ?_
  refine ez_icmp_lt (tgt := 142) dX10_isSo_135 (by decide) (fun c1 => ?_) (fun c1 => ?_)
  · skip
    refine ez_iconst (v := 0) dX10_isSo_142 (by decide) ?_
    refine ez_iret dX10_isSo_143 rfl (by decide) ?_
    exact ⟨rfl, Or.inr ⟨by show ¬ (zsoB T b 4 v = true); unfold zsoB; rw [if_neg (by decide)]; rw [if_neg (by decide)]; rw [if_neg (by decide)]; rw [if_neg (by decide)]; rw [decide_eq_true_eq]; exact fun g => g c1, rfl⟩⟩
  · skip
    refine ez_iconst (v := 1) dX10_isSo_138 (by decide) ?_
    refine ez_goto (tgt := 143) dX10_isSo_139 (by decide) ?_
    refine ez_iret dX10_isSo_143 rfl (by decide) ?_
    exact ⟨rfl, Or.inl ⟨by show (zsoB T b 4 v = true); unfold zsoB; rw [if_neg (by decide)]; rw [if_neg (by decide)]; rw [if_neg (by decide)]; rw [if_neg (by decide)]; rw [decide_eq_true_eq]; exact c1, rfl⟩⟩
theorem k_isSo {n : Nat} {sl : Nat × Nat} {kd : Nat → Nat × Nat} {I : Nat → Nat → Int32} {L : Nat → Nat → Int64} {Rf : Nat → Nat → Option Nat} (d : Nat) {T : zT} {H : Nat} {I0 g : Nat → Nat → Int32} {L0 : Nat → Nat → Int64} {R0 : Nat → Nat → Option Nat} {G Bf : Option (Nat → Int32)} (hK : zK n kd I0 L0 R0 g I L Rf T G Bf true) (hO : zOk H T) (hH : H ≤ 1000000000) {b : Nat} (hb : b < T.c) {wh : Int32} (hw : 0 ≤ wh ∧ wh ≤ 4) (v : Int32) : zq mX10_isSo (d + 20) [.ref 0, .int (nI b), .int wh, .int v] (n, sl, kd, I, L, Rf) (eb_b (zsoB T b wh v = true) (n, sl, kd, I, L, Rf)) := by
  obtain ⟨q, _, hq, rfl⟩ := z_pk1 (lo := 0) (N := 4) hw (by decide) (by decide)
  rcases (show q = 0 ∨ q = 1 ∨ q = 2 ∨ q = 3 ∨ q = 4 by omega) with rfl | rfl | rfl | rfl | rfl
  · exact k_isSo_0 d hK hO hH hb v
  · exact k_isSo_1 d hK hO hH hb v
  · exact k_isSo_2 d hK hO hH hb v
  · exact k_isSo_3 d hK hO hH hb v
  · exact k_isSo_4 d hK hO hH hb v
theorem a_fis_0 {T : zT} {b j : Nat} (h : a_fis T b j = 0) : ∀ n, j ≤ n → a_fis T b n = 0 := by
  intro n
  induction n with
  | zero => intro hj; rw [← Nat.le_zero.mp hj]; exact h
  | succ n ih =>
    intro hj
    by_cases e : j = n + 1
    · rw [← e]; exact h
    · rw [a_fis, b_fis, if_pos (ih (by omega))]
theorem k_sus {n : Nat} {sl : Nat × Nat} {kd : Nat → Nat × Nat} {I : Nat → Nat → Int32} {L : Nat → Nat → Int64} {Rf : Nat → Nat → Option Nat} (d : Nat) {T : zT} {H : Nat} {I0 g : Nat → Nat → Int32} {L0 : Nat → Nat → Int64} {R0 : Nat → Nat → Option Nat} {G Bf : Option (Nat → Int32)} (hK : zK n kd I0 L0 R0 g I L Rf T G Bf true) (hO : zOk H T) (hH : H ≤ 1000000000) : zq mX10_suspects (d + 21) [.ref 0] (n, sl, kd, I, L, Rf) (eb_r (a_fit T T.c) (n, sl, kd, I, L, Rf)) := by
  have hC := hK.C; have hF := hC.F; have hc7 := hO.c
  intro f B
  refine ez_meth pn_X.2.2.2.2.2.2.2.2.2.2.1 (Nat.le_of_ble_eq_true rfl) ?_
  show ez_P _ _ _ _ _ _ 0 [(0, .ref 0)] [] (n, sl, kd, I, L, Rf) _
  refine ez_iconst (v := 0) dX10_suspects_0 (by decide) ?_
  refine ez_istore_n (l' := [(1, .int 0), (0, .ref 0)]) dX10_suspects_1 rfl (by decide) rfl ?_
  refine ez_iconst (v := 0) dX10_suspects_2 (by decide) ?_
  refine ez_istore_n (l' := [(2, .int 0), (1, .int 0), (0, .ref 0)]) dX10_suspects_3 rfl (by decide) rfl ?_
  refine ez_eq (l2 := [(2, .int (nI 0)), (1, .int 0), (0, .ref 0)]) (σ2 := (n, sl, kd, I, L, Rf)) rfl rfl rfl rfl ?_
  refine ez_for T.c (fun k (a : Int32) => ([(2, .int (nI k)), (1, .int a), (0, .ref 0)], (n, sl, kd, I, L, Rf))) (fun k a => a = a_fit T k) ?_ ?_ T.c 0 (0) (by omega) rfl
  · rintro k bi hk hac ih
    have hac : bi = a_fit T k := hac
    show ez_P _ _ _ _ _ _ 4 [(2, .int (nI k)), (1, .int bi), (0, .ref 0)] [] (n, sl, kd, I, L, Rf) _
    refine ez_iload_n (i := 2) dX10_suspects_4 rfl rfl ?_
    refine ez_aload_n (i := 0) dX10_suspects_5 rfl rfl ?_
    refine ez_getR dX10_suspects_6 flX10_33 (hF.lt (by decide)) (hF.kc (by decide) rfl) (hF.pt 21 rfl) ?_
    refine ez_getI dX10_suspects_9 flX10_126 (hF.lt (by decide)) (hF.kc (by decide) rfl) ?_
    refine ez_topE (y := nI T.c) hK.C.sh.cr ?_
    refine ez_icmp_ge (tgt := 88) dX10_suspects_12 (by decide) (fun c1 => absurd c1 (nI_ge hk (by omega))) (fun c1 => ?_)
    refine ez_iconst (v := 1) dX10_suspects_15 (by decide) ?_
    refine ez_istore_n (l' := [(3, .int 1), (2, .int (nI k)), (1, .int bi), (0, .ref 0)]) dX10_suspects_16 rfl (by decide) rfl ?_
    refine ez_iconst (v := 0) dX10_suspects_17 (by decide) ?_
    refine ez_istore (l' := [(4, .int 0), (3, .int 1), (2, .int (nI k)), (1, .int bi), (0, .ref 0)]) dX10_suspects_18 (by decide) rfl ?_
    refine ez_eq (l2 := [(4, .int (nI 0)), (3, .int 1), (2, .int (nI k)), (1, .int bi), (0, .ref 0)]) (σ2 := (n, sl, kd, I, L, Rf)) rfl rfl rfl rfl ?_
    refine ez_for T.hd.length (fun j (a : Int32) => ([(4, .int (nI j)), (3, .int a), (2, .int (nI k)), (1, .int bi), (0, .ref 0)], (n, sl, kd, I, L, Rf))) (fun j a => a = a_fis T k j) ?_ ?_ T.hd.length 0 (1) (by omega) rfl
    · rintro j is hk2 hac2 ih2
      have hac2 : is = a_fis T k j := hac2
      show ez_P _ _ _ _ _ _ 20 [(4, .int (nI j)), (3, .int is), (2, .int (nI k)), (1, .int bi), (0, .ref 0)] [] (n, sl, kd, I, L, Rf) _
      refine ez_iload (i := 4) dX10_suspects_20 rfl ?_
      refine ez_aload_n (i := 0) dX10_suspects_22 rfl rfl ?_
      refine ez_getR dX10_suspects_23 flX10_67 (hF.lt (by decide)) (hF.kc (by decide) rfl) (hF.pt 94 rfl) ?_
      refine ez_getI dX10_suspects_26 flX10_351 (hF.lt (by decide)) (hF.kc (by decide) rfl) ?_
      refine ez_topE (y := nI T.hd.length) hK.C.hd.1 ?_
      refine ez_icmp_ge (tgt := 68) dX10_suspects_29 (by decide) (fun c2 => absurd c2 (nI_ge hk2 (by have := hO.hdl; omega))) (fun c2 => ?_)
      refine ez_iload_n (i := 3) dX10_suspects_32 rfl rfl ?_
      refine ez_if_eq (tgt := 68) dX10_suspects_33 (by decide) (fun c3 => ?_) (fun c3 => ?_)
      · skip
        refine ez_iload_n (i := 1) dX10_suspects_68 rfl rfl ?_
        refine ez_iload_n (i := 3) dX10_suspects_69 rfl rfl ?_
        refine ez_if_eq (tgt := 79) dX10_suspects_70 (by decide) (fun c4 => ?_) (fun c4 => absurd (by assumption) c4)
        refine ez_iconst (v := 0) dX10_suspects_79 (by decide) ?_
        refine ez_ior dX10_suspects_80 ?_
        refine ez_istore_n (l' := [(1, .int (bi ||| 0)), (4, .int (nI j)), (3, .int is), (2, .int (nI k)), (0, .ref 0)]) dX10_suspects_81 rfl (by decide) rfl ?_
        refine ez_iinc (v := (nI (k + 1))) (l' := [(2, .int ((nI (k + 1)))), (1, .int (bi ||| 0)), (4, .int (nI j)), (3, .int is), (0, .ref 0)]) dX10_suspects_82 rfl (nI_1 _) (by decide) rfl ?_
        refine ez_goto (tgt := 4) dX10_suspects_85 (by decide) ?_
        refine ez_sub (l' := [(2, .int ((nI (k + 1)))), (1, .int (bi ||| 0)), (0, .ref 0)]) [0, 1, 4] rfl ?_
        exact ez_eq (l2 := [(2, .int (nI (k + 1))), (1, .int (bi ||| 0)), (0, .ref 0)]) rfl rfl rfl rfl (ih (bi ||| 0) (by rw [a_fit, ← hac, b_fit, if_pos (a_fis_0 (hac2.symm.trans c3) _ (by omega))]))
      · skip
        refine ez_aload_n (i := 0) dX10_suspects_36 rfl rfl ?_
        refine ez_iload_n (i := 2) dX10_suspects_37 rfl rfl ?_
        refine ez_aload_n (i := 0) dX10_suspects_38 rfl rfl ?_
        refine ez_getR dX10_suspects_39 flX10_67 (hF.lt (by decide)) (hF.kc (by decide) rfl) (hF.pt 94 rfl) ?_
        refine ez_getR dX10_suspects_42 flX10_363 (hF.lt (by decide)) (hF.kc (by decide) rfl) (hF.pt 95 rfl) ?_
        refine ez_iload (i := 4) dX10_suspects_45 rfl ?_
        refine ez_iaN (k := j) dX10_suspects_47 (hF.lt (by decide)) (hF.ka (by decide) rfl) (by have := hO.hdl; omega) (by decide) ?_
        refine ez_topE (y := (zhd T j).1) (hK.C.hd.2 _ _ (zhd_at (by omega))).1 ?_
        refine ez_aload_n (i := 0) dX10_suspects_48 rfl rfl ?_
        refine ez_getR dX10_suspects_49 flX10_67 (hF.lt (by decide)) (hF.kc (by decide) rfl) (hF.pt 94 rfl) ?_
        refine ez_getR dX10_suspects_52 flX10_366 (hF.lt (by decide)) (hF.kc (by decide) rfl) (hF.pt 96 rfl) ?_
        refine ez_iload (i := 4) dX10_suspects_55 rfl ?_
        refine ez_iaN (k := j) dX10_suspects_57 (hF.lt (by decide)) (hF.ka (by decide) rfl) (by have := hO.hdl; omega) (by decide) ?_
        refine ez_topE (y := (zhd T j).2) (hK.C.hd.2 _ _ (zhd_at (by omega))).2 ?_
        refine ez_callV (M1 := mX10_isSo) (rest := []) dX10_suspects_58 mlX10_381 mvX10_isSo rfl (hF.lt (by decide)) (hF.kc (by decide) rfl) (Nat.le_of_ble_eq_true rfl) rfl (k_isSo (T := T) (I := I) (L := L) (d + 0) hK hO hH (b := k) hk (zhd_r hO hk2) ((zhd T j).2)) eb_bok ?_
        rintro _ _ ⟨rfl, ⟨b5, rfl⟩ | ⟨b5, rfl⟩⟩
        · show ez_P _ _ _ _ _ _ 61 [(4, .int (nI j)), (3, .int is), (2, .int (nI k)), (1, .int bi), (0, .ref 0)] (.int 1 :: []) _ _
          refine ez_istore_n (l' := [(3, .int 1), (4, .int (nI j)), (2, .int (nI k)), (1, .int bi), (0, .ref 0)]) dX10_suspects_61 rfl (by decide) rfl ?_
          refine ez_iinc (v := (nI (j + 1))) (l' := [(4, .int ((nI (j + 1)))), (3, .int 1), (2, .int (nI k)), (1, .int bi), (0, .ref 0)]) dX10_suspects_62 rfl (nI_1 _) (by decide) rfl ?_
          refine ez_goto (tgt := 20) dX10_suspects_65 (by decide) ?_
          exact ez_eq (l2 := [(4, .int (nI (j + 1))), (3, .int 1), (2, .int (nI k)), (1, .int bi), (0, .ref 0)]) rfl rfl rfl rfl (ih2 (1) (by rw [a_fis, ← hac2, b_fis]; simp only [if_neg c3, if_pos b5]))
        · show ez_P _ _ _ _ _ _ 61 [(4, .int (nI j)), (3, .int is), (2, .int (nI k)), (1, .int bi), (0, .ref 0)] (.int 0 :: []) _ _
          refine ez_istore_n (l' := [(3, .int 0), (4, .int (nI j)), (2, .int (nI k)), (1, .int bi), (0, .ref 0)]) dX10_suspects_61 rfl (by decide) rfl ?_
          refine ez_iinc (v := (nI (j + 1))) (l' := [(4, .int ((nI (j + 1)))), (3, .int 0), (2, .int (nI k)), (1, .int bi), (0, .ref 0)]) dX10_suspects_62 rfl (nI_1 _) (by decide) rfl ?_
          refine ez_goto (tgt := 20) dX10_suspects_65 (by decide) ?_
          exact ez_eq (l2 := [(4, .int (nI (j + 1))), (3, .int 0), (2, .int (nI k)), (1, .int bi), (0, .ref 0)]) rfl rfl rfl rfl (ih2 (0) (by rw [a_fis, ← hac2, b_fis]; simp only [if_neg c3, if_neg b5]))
    · rintro is hac2
      have hac2 : is = a_fis T k T.hd.length := hac2
      show ez_P _ _ _ _ _ _ 20 [(4, .int (nI T.hd.length)), (3, .int is), (2, .int (nI k)), (1, .int bi), (0, .ref 0)] [] (n, sl, kd, I, L, Rf) _
      refine ez_iload (i := 4) dX10_suspects_20 rfl ?_
      refine ez_aload_n (i := 0) dX10_suspects_22 rfl rfl ?_
      refine ez_getR dX10_suspects_23 flX10_67 (hF.lt (by decide)) (hF.kc (by decide) rfl) (hF.pt 94 rfl) ?_
      refine ez_getI dX10_suspects_26 flX10_351 (hF.lt (by decide)) (hF.kc (by decide) rfl) ?_
      refine ez_topE (y := nI T.hd.length) hK.C.hd.1 ?_
      refine ez_icmp_ge (tgt := 68) dX10_suspects_29 (by decide) (fun c6 => ?_) (fun c6 => absurd (nI_le (Nat.le_refl _) (by have := hO.hdl; omega)) c6)
      refine ez_iload_n (i := 1) dX10_suspects_68 rfl rfl ?_
      refine ez_iload_n (i := 3) dX10_suspects_69 rfl rfl ?_
      refine ez_if_eq (tgt := 79) dX10_suspects_70 (by decide) (fun c7 => ?_) (fun c7 => ?_)
      · skip
        refine ez_iconst (v := 0) dX10_suspects_79 (by decide) ?_
        refine ez_ior dX10_suspects_80 ?_
        refine ez_istore_n (l' := [(1, .int (bi ||| 0)), (4, .int (nI T.hd.length)), (3, .int is), (2, .int (nI k)), (0, .ref 0)]) dX10_suspects_81 rfl (by decide) rfl ?_
        refine ez_iinc (v := (nI (k + 1))) (l' := [(2, .int ((nI (k + 1)))), (1, .int (bi ||| 0)), (4, .int (nI T.hd.length)), (3, .int is), (0, .ref 0)]) dX10_suspects_82 rfl (nI_1 _) (by decide) rfl ?_
        refine ez_goto (tgt := 4) dX10_suspects_85 (by decide) ?_
        refine ez_sub (l' := [(2, .int ((nI (k + 1)))), (1, .int (bi ||| 0)), (0, .ref 0)]) [0, 1, 4] rfl ?_
        exact ez_eq (l2 := [(2, .int (nI (k + 1))), (1, .int (bi ||| 0)), (0, .ref 0)]) rfl rfl rfl rfl (ih (bi ||| 0) (by rw [a_fit, ← hac, b_fit, ← hac2]; simp only [if_pos c7]))
      · skip
        refine ez_iconst (v := 1) dX10_suspects_73 (by decide) ?_
        refine ez_iload_n (i := 2) dX10_suspects_74 rfl rfl ?_
        refine ez_ishl dX10_suspects_75 ?_
        refine ez_goto (tgt := 80) dX10_suspects_76 (by decide) ?_
        refine ez_ior dX10_suspects_80 ?_
        refine ez_istore_n (l' := [(1, .int (bi ||| (1 <<< ((nI k) &&& 31)))), (4, .int (nI T.hd.length)), (3, .int is), (2, .int (nI k)), (0, .ref 0)]) dX10_suspects_81 rfl (by decide) rfl ?_
        refine ez_iinc (v := (nI (k + 1))) (l' := [(2, .int ((nI (k + 1)))), (1, .int (bi ||| (1 <<< ((nI k) &&& 31)))), (4, .int (nI T.hd.length)), (3, .int is), (0, .ref 0)]) dX10_suspects_82 rfl (nI_1 _) (by decide) rfl ?_
        refine ez_goto (tgt := 4) dX10_suspects_85 (by decide) ?_
        refine ez_sub (l' := [(2, .int ((nI (k + 1)))), (1, .int (bi ||| (1 <<< ((nI k) &&& 31)))), (0, .ref 0)]) [0, 1, 4] rfl ?_
        exact ez_eq (l2 := [(2, .int (nI (k + 1))), (1, .int (bi ||| (1 <<< ((nI k) &&& 31)))), (0, .ref 0)]) rfl rfl rfl rfl (ih (bi ||| (1 <<< ((nI k) &&& 31))) (by rw [a_fit, ← hac, b_fit, ← hac2]; simp only [if_neg c7]))
  · rintro bi hac
    have hac : bi = a_fit T T.c := hac
    show ez_P _ _ _ _ _ _ 4 [(2, .int (nI T.c)), (1, .int bi), (0, .ref 0)] [] (n, sl, kd, I, L, Rf) _
    refine ez_iload_n (i := 2) dX10_suspects_4 rfl rfl ?_
    refine ez_aload_n (i := 0) dX10_suspects_5 rfl rfl ?_
    refine ez_getR dX10_suspects_6 flX10_33 (hF.lt (by decide)) (hF.kc (by decide) rfl) (hF.pt 21 rfl) ?_
    refine ez_getI dX10_suspects_9 flX10_126 (hF.lt (by decide)) (hF.kc (by decide) rfl) ?_
    refine ez_topE (y := nI T.c) hK.C.sh.cr ?_
    refine ez_icmp_ge (tgt := 88) dX10_suspects_12 (by decide) (fun c8 => ?_) (fun c8 => absurd (nI_le (Nat.le_refl _) (by omega)) c8)
    refine ez_iload_n (i := 1) dX10_suspects_88 rfl rfl ?_
    refine ez_iret dX10_suspects_89 rfl rfl ?_
    rw [hac]; exact ⟨rfl, rfl⟩
theorem c_fits {n : Nat} {sl : Nat × Nat} {kd : Nat → Nat × Nat} {I : Nat → Nat → Int32} {L : Nat → Nat → Int64} {Rf : Nat → Nat → Option Nat} (d : Nat) {T : zT} {H : Nat} (hC : zC n kd I L Rf T) (hO : zOk H T) (hH : H ≤ 1000000000) : zq mX10_fits (d + 60) [.ref 0] (n, sl, kd, I, L, Rf) (zpC n sl kd I L Rf (some (.int (s_fits T).1)) (s_fits T).2) := by
  have hF := hC.F; have hc7 := hO.c
  have hK0 : zK n kd I L Rf I I L Rf T none none false := zK.start hC
  have hsp : s_fits T = (a_fit T T.c, T.w_rw [(z_bc (a_fit T T.c)).toInt64]) := rfl
  rw [hsp]
  intro f B
  refine ez_meth pn_X.2.2.2.2.2.2.2.2.2.2.1 (Nat.le_of_ble_eq_true rfl) ?_
  show ez_P _ _ _ _ _ _ 0 [(0, .ref 0)] [] (n, sl, kd, I, L, Rf) _
  refine ez_aload_n (i := 0) dX10_fits_0 rfl rfl ?_
  refine ez_callV (M1 := mX10_weighAll) (rest := []) dX10_fits_1 mlX10_263 mvX10_weighAll rfl (hF.lt (by decide)) (hF.kc (by decide) rfl) (Nat.le_of_ble_eq_true rfl) rfl (k_weighAll (T := T) (I := I) (L := L) (d + 39) hK0.C hO hH) k_wo_ok ?_
  rintro _ _ ⟨rfl, I1, rfl, hl2, hn3⟩
  show ez_P _ _ _ _ _ _ 4 [(0, .ref 0)] [] (n, sl, kd, I1, L, Rf) _
  have hK4 : zK n kd I L Rf I I1 L Rf T none none true := by exact hK0.lod hl2 hn3
  refine ez_aload_n (i := 0) dX10_fits_4 rfl rfl ?_
  refine ez_callV (M1 := mX10_suspects) (rest := []) dX10_fits_5 mlX10_375 mvX10_suspects rfl (hF.lt (by decide)) (hF.kc (by decide) rfl) (Nat.le_of_ble_eq_true rfl) rfl (k_sus (T := T) (I := I1) (L := L) (d + 38) hK4 hO hH ) eb_rok ?_
  rintro _ _ ⟨rfl, rfl⟩
  show ez_P _ _ _ _ _ _ 8 [(0, .ref 0)] (.int (a_fit T T.c) :: []) _ _
  refine ez_istore_n (l' := [(1, .int (a_fit T T.c)), (0, .ref 0)]) dX10_fits_8 rfl (by decide) rfl ?_
  refine ez_aload_n (i := 0) dX10_fits_9 rfl rfl ?_
  refine ez_getR dX10_fits_10 flX10_19 (hF.lt (by decide)) (hF.kc (by decide) rfl) (hF.pt 3 rfl) ?_
  refine ez_iload_n (i := 1) dX10_fits_13 rfl rfl ?_
  refine ez_callS (M1 := mJ6_bitCount_0f7a4) (rest := [.ref 3]) dX10_fits_14 mlX10_330 msJ6_bitCount_0f7a4 rfl (Nat.le_of_ble_eq_true rfl) rfl (zq_r (fun σ => q_J6_bitCount_0f7a4 (σ := σ) (d + 59) (a_fit T T.c)) (n, sl, kd, I1, L, Rf)) eb_rok ?_
  rintro _ _ ⟨rfl, rfl⟩
  show ez_P _ _ _ _ _ _ 17 [(1, .int (a_fit T T.c)), (0, .ref 0)] (.int (z_bc (a_fit T T.c)) :: [.ref 3]) _ _
  refine ez_callV (M1 := mX4_tell) (rest := []) dX10_fits_17 mlX10_285 mvX4_tell rfl (hF.lt (by decide)) (hF.kc (by decide) rfl) (Nat.le_of_ble_eq_true rfl) rfl (y_X4_tell (I := I1) (L := L) (d + 58) hF (z_bc (a_fit T T.c))) z_tok ?_
  rintro _ _ ⟨rfl, I5, L6, rfl, hr7, ho8⟩
  show ez_P _ _ _ _ _ _ 20 [(1, .int (a_fit T T.c)), (0, .ref 0)] [] (n, sl, kd, I5, L6, Rf) _
  have hK9 : zK n kd I L Rf I I5 L6 Rf (T.w_rw [(z_bc (a_fit T T.c)).toInt64]) none none true := by exact hK4.tell hr7 ho8
  refine ez_iload_n (i := 1) dX10_fits_20 rfl rfl ?_
  refine ez_iret dX10_fits_21 rfl rfl ?_
  exact hK9.end
theorem a_aky_n {T : zT} {th w v : Int32} : ∀ n, ∃ m, m ≤ n ∧ a_aky T th w v n = nI m := by
  intro n
  induction n with
  | zero => exact ⟨0, Nat.le_refl _, rfl⟩
  | succ n ih =>
    obtain ⟨m, h1, h2⟩ := ih
    rw [a_aky, b_aky, h2]
    split
    · split
      · exact ⟨m + 1, by omega, nI_1 m⟩
      · exact ⟨m, by omega, by rw [Int32.add_zero]⟩
    · exact ⟨m, by omega, by rw [Int32.add_zero]⟩
theorem a_fit_n {T : zT} : ∀ k, k ≤ 7 → ∃ m, m < 128 ∧ a_fit T k = nI m := by
  intro k
  induction k with
  | zero => intro _; exact ⟨0, by decide, rfl⟩
  | succ k ih =>
    intro hk
    obtain ⟨m, h1, h2⟩ := ih (by omega)
    rw [a_fit, b_fit, h2]
    split
    · exact ⟨m, h1, by rw [Int32.or_zero]⟩
    · obtain ⟨z1, z2, _⟩ := zcb_k m h1 k (by omega)
      exact ⟨_, z2, z1⟩
theorem z_bc7 : ∀ m, m < 128 → (z_bc (nI m)).toNatClampNeg ≤ 7 ∧ z_bc (nI m) = nI (z_bc (nI m)).toNatClampNeg := by decide +kernel
theorem z_ms_k : ∀ b, b ≤ 7 → ∀ y, y ≤ 7 → ¬ (8 ≤ (if nI y < nI b - nI y then nI b - nI y else nI y)) ∧ (if nI y < nI b - nI y then nI b - nI y else nI y) < 1000000 := by decide +kernel
theorem z_mst_8 {T : zT} {th w v : Int32} (hc : T.c ≤ 7) (ht : ∃ m, m < 128 ∧ th = nI m) : ¬ (8 ≤ z_mst T th w v) ∧ z_mst T th w v < 1000000 := by
  obtain ⟨m, h1, rfl⟩ := ht
  obtain ⟨y, h3, h4⟩ := a_aky_n (T := T) (th := nI m) (w := w) (v := v) T.c
  obtain ⟨h5, h6⟩ := z_bc7 m h1
  unfold z_mst
  rw [h4, h6]
  exact z_ms_k _ h5 y (by omega)
/-- the greatest of each what -/
def zhm (k : Nat) : Nat := if k = 1 ∨ k = 3 then 5 else if k = 2 then 1 else 9
theorem zhm_k : ∀ k, k < 5 → z_hi (nI k) = nI (zhm k) ∧ zhm k < 10 := by decide +kernel
theorem a_ask_skip {T : zT} {th : Int32} {k : Nat} (hk : k < 5) : ∀ j, zhm k + 1 ≤ j → j ≤ 10 → a_ask T th (10 * k + j) = a_ask T th (10 * k + (zhm k + 1)) := by
  intro j
  induction j with
  | zero => intro h _; exact absurd h (Nat.not_succ_le_zero _)
  | succ j ih =>
    intro h1 h2
    by_cases e : zhm k + 1 = j + 1
    · rw [e]
    · rw [← ih (by omega) (by omega), show 10 * k + (j + 1) = (10 * k + j) + 1 from rfl, a_ask, b_ask, show (10 * k + j) % 10 = j from by omega, show (10 * k + j) / 10 = k from by omega, (zhm_k k hk).1, if_neg (fun g => absurd ((nI_leI (by omega) (by have := (zhm_k k hk).2; omega)).mp g) (by omega))]
theorem k_lbh {n : Nat} {sl : Nat × Nat} {kd : Nat → Nat × Nat} {I : Nat → Nat → Int32} {L : Nat → Nat → Int64} {Rf : Nat → Nat → Option Nat} (d : Nat) {T : zT} {H : Nat} {I0 g : Nat → Nat → Int32} {L0 : Nat → Nat → Int64} {R0 : Nat → Nat → Option Nat} {G Bf : Option (Nat → Int32)} (hK : zK n kd I0 L0 R0 g I L Rf T G Bf true) (hO : zOk H T) (hH : H ≤ 1000000000) (th : Int32) {wh : Int32} (hw : 0 ≤ wh ∧ wh ≤ 4) (v : Int32) : zq mX10_leftBehind (d + 21) [.ref 0, .int th, .int wh, .int v] (n, sl, kd, I, L, Rf) (eb_r (z_mst T th wh v) (n, sl, kd, I, L, Rf)) := by
  have hC := hK.C; have hF := hC.F; have hc7 := hO.c
  intro f B
  refine ez_meth pn_X.2.2.2.2.2.2.2.2.2.2.1 (Nat.le_of_ble_eq_true rfl) ?_
  show ez_P _ _ _ _ _ _ 0 [(0, .ref 0), (1, .int th), (2, .int wh), (3, .int v)] [] (n, sl, kd, I, L, Rf) _
  refine ez_iconst (v := 0) dX10_leftBehind_0 (by decide) ?_
  refine ez_istore (l' := [(4, .int 0), (0, .ref 0), (1, .int th), (2, .int wh), (3, .int v)]) dX10_leftBehind_1 (by decide) rfl ?_
  refine ez_iconst (v := 0) dX10_leftBehind_3 (by decide) ?_
  refine ez_istore (l' := [(5, .int 0), (4, .int 0), (0, .ref 0), (1, .int th), (2, .int wh), (3, .int v)]) dX10_leftBehind_4 (by decide) rfl ?_
  refine ez_eq (l2 := [(5, .int (nI 0)), (4, .int 0), (0, .ref 0), (1, .int th), (2, .int wh), (3, .int v)]) (σ2 := (n, sl, kd, I, L, Rf)) rfl rfl rfl rfl ?_
  refine ez_for T.c (fun k (a : Int32) => ([(5, .int (nI k)), (4, .int a), (0, .ref 0), (1, .int th), (2, .int wh), (3, .int v)], (n, sl, kd, I, L, Rf))) (fun k a => a = a_aky T th wh v k) ?_ ?_ T.c 0 (0) (by omega) rfl
  · rintro k ye hk hac ih
    have hac : ye = a_aky T th wh v k := hac
    show ez_P _ _ _ _ _ _ 6 [(5, .int (nI k)), (4, .int ye), (0, .ref 0), (1, .int th), (2, .int wh), (3, .int v)] [] (n, sl, kd, I, L, Rf) _
    refine ez_iload (i := 5) dX10_leftBehind_6 rfl ?_
    refine ez_aload_n (i := 0) dX10_leftBehind_8 rfl rfl ?_
    refine ez_getR dX10_leftBehind_9 flX10_33 (hF.lt (by decide)) (hF.kc (by decide) rfl) (hF.pt 21 rfl) ?_
    refine ez_getI dX10_leftBehind_12 flX10_126 (hF.lt (by decide)) (hF.kc (by decide) rfl) ?_
    refine ez_topE (y := nI T.c) hK.C.sh.cr ?_
    refine ez_icmp_ge (tgt := 54) dX10_leftBehind_15 (by decide) (fun c1 => absurd c1 (nI_ge hk (by omega))) (fun c1 => ?_)
    refine ez_iload (i := 4) dX10_leftBehind_18 rfl ?_
    refine ez_iload_n (i := 1) dX10_leftBehind_20 rfl rfl ?_
    refine ez_iload (i := 5) dX10_leftBehind_21 rfl ?_
    refine ez_callS (M1 := mX10_hasBit) (rest := [.int ye]) dX10_leftBehind_23 mlX10_346 msX10_hasBit rfl (Nat.le_of_ble_eq_true rfl) rfl (zq_b (q_X10_hasBit (d + 20) th (nI k)) (n, sl, kd, I, L, Rf)) eb_bok ?_
    rintro _ _ ⟨rfl, ⟨b2, rfl⟩ | ⟨b2, rfl⟩⟩
    · show ez_P _ _ _ _ _ _ 26 [(5, .int (nI k)), (4, .int ye), (0, .ref 0), (1, .int th), (2, .int wh), (3, .int v)] (.int 1 :: [.int ye]) _ _
      refine ez_if_eq (tgt := 44) dX10_leftBehind_26 (by decide) (fun c3 => absurd c3 (by decide)) (fun c3 => ?_)
      refine ez_aload_n (i := 0) dX10_leftBehind_29 rfl rfl ?_
      refine ez_iload (i := 5) dX10_leftBehind_30 rfl ?_
      refine ez_iload_n (i := 2) dX10_leftBehind_32 rfl rfl ?_
      refine ez_iload_n (i := 3) dX10_leftBehind_33 rfl rfl ?_
      refine ez_callV (M1 := mX10_isSo) (rest := [.int ye]) dX10_leftBehind_34 mlX10_381 mvX10_isSo rfl (hF.lt (by decide)) (hF.kc (by decide) rfl) (Nat.le_of_ble_eq_true rfl) rfl (k_isSo (T := T) (I := I) (L := L) (d + 0) hK hO hH (b := k) hk hw v) eb_bok ?_
      rintro _ _ ⟨rfl, ⟨b4, rfl⟩ | ⟨b4, rfl⟩⟩
      · show ez_P _ _ _ _ _ _ 37 [(5, .int (nI k)), (4, .int ye), (0, .ref 0), (1, .int th), (2, .int wh), (3, .int v)] (.int 1 :: [.int ye]) _ _
        refine ez_if_eq (tgt := 44) dX10_leftBehind_37 (by decide) (fun c5 => absurd c5 (by decide)) (fun c5 => ?_)
        refine ez_iconst (v := 1) dX10_leftBehind_40 (by decide) ?_
        refine ez_goto (tgt := 45) dX10_leftBehind_41 (by decide) ?_
        refine ez_iadd dX10_leftBehind_45 ?_
        refine ez_istore (l' := [(4, .int (ye + 1)), (5, .int (nI k)), (0, .ref 0), (1, .int th), (2, .int wh), (3, .int v)]) dX10_leftBehind_46 (by decide) rfl ?_
        refine ez_iinc (v := (nI (k + 1))) (l' := [(5, .int ((nI (k + 1)))), (4, .int (ye + 1)), (0, .ref 0), (1, .int th), (2, .int wh), (3, .int v)]) dX10_leftBehind_48 rfl (nI_1 _) (by decide) rfl ?_
        refine ez_goto (tgt := 6) dX10_leftBehind_51 (by decide) ?_
        exact ez_eq (l2 := [(5, .int (nI (k + 1))), (4, .int (ye + 1)), (0, .ref 0), (1, .int th), (2, .int wh), (3, .int v)]) rfl rfl rfl rfl (ih (ye + 1) (by rw [a_aky, ← hac, b_aky]; simp only [if_pos b2, if_pos b4]))
      · show ez_P _ _ _ _ _ _ 37 [(5, .int (nI k)), (4, .int ye), (0, .ref 0), (1, .int th), (2, .int wh), (3, .int v)] (.int 0 :: [.int ye]) _ _
        refine ez_if_eq (tgt := 44) dX10_leftBehind_37 (by decide) (fun c6 => ?_) (fun c6 => absurd (by decide) c6)
        refine ez_iconst (v := 0) dX10_leftBehind_44 (by decide) ?_
        refine ez_iadd dX10_leftBehind_45 ?_
        refine ez_istore (l' := [(4, .int (ye + 0)), (5, .int (nI k)), (0, .ref 0), (1, .int th), (2, .int wh), (3, .int v)]) dX10_leftBehind_46 (by decide) rfl ?_
        refine ez_iinc (v := (nI (k + 1))) (l' := [(5, .int ((nI (k + 1)))), (4, .int (ye + 0)), (0, .ref 0), (1, .int th), (2, .int wh), (3, .int v)]) dX10_leftBehind_48 rfl (nI_1 _) (by decide) rfl ?_
        refine ez_goto (tgt := 6) dX10_leftBehind_51 (by decide) ?_
        exact ez_eq (l2 := [(5, .int (nI (k + 1))), (4, .int (ye + 0)), (0, .ref 0), (1, .int th), (2, .int wh), (3, .int v)]) rfl rfl rfl rfl (ih (ye + 0) (by rw [a_aky, ← hac, b_aky]; simp only [if_pos b2, if_neg b4]))
    · show ez_P _ _ _ _ _ _ 26 [(5, .int (nI k)), (4, .int ye), (0, .ref 0), (1, .int th), (2, .int wh), (3, .int v)] (.int 0 :: [.int ye]) _ _
      refine ez_if_eq (tgt := 44) dX10_leftBehind_26 (by decide) (fun c7 => ?_) (fun c7 => absurd (by decide) c7)
      refine ez_iconst (v := 0) dX10_leftBehind_44 (by decide) ?_
      refine ez_iadd dX10_leftBehind_45 ?_
      refine ez_istore (l' := [(4, .int (ye + 0)), (5, .int (nI k)), (0, .ref 0), (1, .int th), (2, .int wh), (3, .int v)]) dX10_leftBehind_46 (by decide) rfl ?_
      refine ez_iinc (v := (nI (k + 1))) (l' := [(5, .int ((nI (k + 1)))), (4, .int (ye + 0)), (0, .ref 0), (1, .int th), (2, .int wh), (3, .int v)]) dX10_leftBehind_48 rfl (nI_1 _) (by decide) rfl ?_
      refine ez_goto (tgt := 6) dX10_leftBehind_51 (by decide) ?_
      exact ez_eq (l2 := [(5, .int (nI (k + 1))), (4, .int (ye + 0)), (0, .ref 0), (1, .int th), (2, .int wh), (3, .int v)]) rfl rfl rfl rfl (ih (ye + 0) (by rw [a_aky, ← hac, b_aky]; simp only [if_neg b2]))
  · rintro ye hac
    have hac : ye = a_aky T th wh v T.c := hac
    show ez_P _ _ _ _ _ _ 6 [(5, .int (nI T.c)), (4, .int ye), (0, .ref 0), (1, .int th), (2, .int wh), (3, .int v)] [] (n, sl, kd, I, L, Rf) _
    refine ez_iload (i := 5) dX10_leftBehind_6 rfl ?_
    refine ez_aload_n (i := 0) dX10_leftBehind_8 rfl rfl ?_
    refine ez_getR dX10_leftBehind_9 flX10_33 (hF.lt (by decide)) (hF.kc (by decide) rfl) (hF.pt 21 rfl) ?_
    refine ez_getI dX10_leftBehind_12 flX10_126 (hF.lt (by decide)) (hF.kc (by decide) rfl) ?_
    refine ez_topE (y := nI T.c) hK.C.sh.cr ?_
    refine ez_icmp_ge (tgt := 54) dX10_leftBehind_15 (by decide) (fun c8 => ?_) (fun c8 => absurd (nI_le (Nat.le_refl _) (by omega)) c8)
    refine ez_iload (i := 4) dX10_leftBehind_54 rfl ?_
    refine ez_iload_n (i := 1) dX10_leftBehind_56 rfl rfl ?_
    refine ez_callS (M1 := mJ6_bitCount_0f7a4) (rest := [.int ye]) dX10_leftBehind_57 mlX10_330 msJ6_bitCount_0f7a4 rfl (Nat.le_of_ble_eq_true rfl) rfl (zq_r (fun σ => q_J6_bitCount_0f7a4 (σ := σ) (d + 20) th) (n, sl, kd, I, L, Rf)) eb_rok ?_
    rintro _ _ ⟨rfl, rfl⟩
    show ez_P _ _ _ _ _ _ 60 [(5, .int (nI T.c)), (4, .int ye), (0, .ref 0), (1, .int th), (2, .int wh), (3, .int v)] (.int (z_bc th) :: [.int ye]) _ _
    refine ez_iload (i := 4) dX10_leftBehind_60 rfl ?_
    refine ez_isub dX10_leftBehind_62 ?_
    refine ez_max dX10_leftBehind_63 xmX10_247 (Nat.le_of_ble_eq_true rfl) ?_
    refine ez_iret dX10_leftBehind_66 rfl rfl ?_
    rw [hac]; exact ⟨rfl, rfl⟩
theorem zC.hmk {n : Nat} {kd : Nat → Nat × Nat} {I : Nat → Nat → Int32} {L : Nat → Nat → Int64} {Rf : Nat → Nat → Option Nat} {T : zT} (h : zC n kd I L Rf T) {k : Nat} (hk : k < 5) : I 1000050 (nI k).toNatClampNeg = nI (zhm k) := by
  rw [nI_clamp (by omega)]
  obtain ⟨_, h0, h1, h2, h3, h4⟩ := h.hm
  rcases (show k = 0 ∨ k = 1 ∨ k = 2 ∨ k = 3 ∨ k = 4 by omega) with e | e | e | e | e <;> subst e
  · exact h0
  · exact h1
  · exact h2
  · exact h3
  · exact h4
theorem c_asks {n : Nat} {sl : Nat × Nat} {kd : Nat → Nat × Nat} {I : Nat → Nat → Int32} {L : Nat → Nat → Int64} {Rf : Nat → Nat → Option Nat} (d : Nat) {T : zT} {H : Nat} (hC : zC n kd I L Rf T) (hO : zOk H T) (hH : H ≤ 1000000000) : zq mX10_asks (d + 60) [.ref 0] (n, sl, kd, I, L, Rf) (zpC n sl kd I L Rf (some (.int (s_asks T).1)) (s_asks T).2) := by
  have hF := hC.F; have hc7 := hO.c
  have hK0 : zK n kd I L Rf I I L Rf T none none false := zK.start hC
  intro f B
  refine ez_meth pn_X.2.2.2.2.2.2.2.2.2.2.1 (Nat.le_of_ble_eq_true rfl) ?_
  show ez_P _ _ _ _ _ _ 0 [(0, .ref 0)] [] (n, sl, kd, I, L, Rf) _
  refine ez_aload_n (i := 0) dX10_asks_0 rfl rfl ?_
  refine ez_callV (M1 := mX10_weighAll) (rest := []) dX10_asks_1 mlX10_263 mvX10_weighAll rfl (hF.lt (by decide)) (hF.kc (by decide) rfl) (Nat.le_of_ble_eq_true rfl) rfl (k_weighAll (T := T) (I := I) (L := L) (d + 39) hK0.C hO hH) k_wo_ok ?_
  rintro _ _ ⟨rfl, I1, rfl, hl2, hn3⟩
  show ez_P _ _ _ _ _ _ 4 [(0, .ref 0)] [] (n, sl, kd, I1, L, Rf) _
  have hK4 : zK n kd I L Rf I I1 L Rf T none none true := by exact hK0.lod hl2 hn3
  refine ez_aload_n (i := 0) dX10_asks_4 rfl rfl ?_
  refine ez_callV (M1 := mX10_suspects) (rest := []) dX10_asks_5 mlX10_375 mvX10_suspects rfl (hF.lt (by decide)) (hF.kc (by decide) rfl) (Nat.le_of_ble_eq_true rfl) rfl (k_sus (T := T) (I := I1) (L := L) (d + 38) hK4 hO hH ) eb_rok ?_
  rintro _ _ ⟨rfl, rfl⟩
  show ez_P _ _ _ _ _ _ 8 [(0, .ref 0)] (.int (a_fit T T.c) :: []) _ _
  refine ez_istore_n (l' := [(1, .int (a_fit T T.c)), (0, .ref 0)]) dX10_asks_8 rfl (by decide) rfl ?_
  refine ez_iload_n (i := 1) dX10_asks_9 rfl rfl ?_
  refine ez_if_ne (tgt := 16) dX10_asks_10 (by decide) (fun c5 => ?_) (fun c5 => ?_)
  · skip
    have hne : ¬ a_fit T T.c = 0 := c5
    have hft := a_fit_n (T := T) T.c hc7
    generalize hbi : a_fit T T.c = bi at *
    refine ez_iconst (v := 0) dX10_asks_16 (by decide) ?_
    refine ez_istore_n (l' := [(2, .int 0), (1, .int bi), (0, .ref 0)]) dX10_asks_17 rfl (by decide) rfl ?_
    refine ez_bipush (v := 8) dX10_asks_18 (by decide) ?_
    refine ez_istore_n (l' := [(3, .int 8), (2, .int 0), (1, .int bi), (0, .ref 0)]) dX10_asks_20 rfl (by decide) rfl ?_
    refine ez_iconst (v := 0) dX10_asks_21 (by decide) ?_
    refine ez_istore (l' := [(4, .int 0), (3, .int 8), (2, .int 0), (1, .int bi), (0, .ref 0)]) dX10_asks_22 (by decide) rfl ?_
    refine ez_eq (l2 := [(4, .int (nI 0)), (3, .int 8), (2, .int 0), (1, .int bi), (0, .ref 0)]) (σ2 := (n, sl, kd, I1, L, Rf)) rfl rfl rfl rfl ?_
    refine ez_for 5 (fun k (a : Int32 × Int32) => ([(4, .int (nI k)), (3, .int a.2), (2, .int a.1), (1, .int bi), (0, .ref 0)], (n, sl, kd, I1, L, Rf))) (fun k a => ((k = 0 ∧ a_ask T bi (10 * k) = (-1, 1000000) ∧ a.2 = 8) ∨ (a.1, a.2) = a_ask T bi (10 * k))) ?_ ?_ 5 0 (0, 8) (by omega) (Or.inl ⟨rfl, rfl, rfl⟩)
    · rintro k ⟨ch, ls⟩ hk hin ih
      have hin : ((k = 0 ∧ a_ask T bi (10 * k) = (-1, 1000000) ∧ ls = 8) ∨ (ch, ls) = a_ask T bi (10 * k)) := hin
      show ez_P _ _ _ _ _ _ 24 [(4, .int (nI k)), (3, .int ls), (2, .int ch), (1, .int bi), (0, .ref 0)] [] (n, sl, kd, I1, L, Rf) _
      refine ez_iload (i := 4) dX10_asks_24 rfl ?_
      refine ez_heard dX10_asks_26 xlX10_372 ?_
      refine ez_xlen (v := 5) dX10_asks_29 (Or.inl rfl) (by show Int32.ofNat (kd 1000050).2 = 5; rw [hC.hm.1]; decide) ?_
      refine ez_icmp_ge (tgt := 88) dX10_asks_30 (by decide) (fun c6 => absurd c6 (nI_ge (b := 5) hk (by decide))) (fun c6 => ?_)
      refine ez_iconst (v := 0) dX10_asks_33 (by decide) ?_
      refine ez_istore (l' := [(5, .int 0), (4, .int (nI k)), (3, .int ls), (2, .int ch), (1, .int bi), (0, .ref 0)]) dX10_asks_34 (by decide) rfl ?_
      refine ez_sub (l' := [(5, .int 0), (3, .int ls), (2, .int ch), (4, .int (nI k)), (1, .int bi), (0, .ref 0)]) [0, 2, 3, 1, 4, 5] rfl ?_
      refine ez_eq (l2 := [(5, .int (nI 0)), (3, .int ls), (2, .int ch), (4, .int (nI k)), (1, .int bi), (0, .ref 0)]) (σ2 := (n, sl, kd, I1, L, Rf)) rfl rfl rfl rfl ?_
      refine ez_for (zhm k + 1) (fun j (a : Int32 × Int32) => ([(5, .int (nI j)), (3, .int a.2), (2, .int a.1), (4, .int (nI k)), (1, .int bi), (0, .ref 0)], (n, sl, kd, I1, L, Rf))) (fun j a => (((k = 0 ∧ j = 0) ∧ a_ask T bi (10 * k + j) = (-1, 1000000) ∧ a.2 = 8) ∨ (a.1, a.2) = a_ask T bi (10 * k + j))) ?_ ?_ (zhm k + 1) 0 (ch, ls) (by omega) (by rcases hin with ⟨e1, e2, e3⟩ | h; exact Or.inl ⟨⟨e1, rfl⟩, e2, e3⟩; exact Or.inr h)
      · rintro j ⟨ch2, ls2⟩ hk2 hin2 ih2
        have hin2 : (((k = 0 ∧ j = 0) ∧ a_ask T bi (10 * k + j) = (-1, 1000000) ∧ ls2 = 8) ∨ (ch2, ls2) = a_ask T bi (10 * k + j)) := hin2
        show ez_P _ _ _ _ _ _ 36 [(5, .int (nI j)), (3, .int ls2), (2, .int ch2), (4, .int (nI k)), (1, .int bi), (0, .ref 0)] [] (n, sl, kd, I1, L, Rf) _
        refine ez_iload (i := 5) dX10_asks_36 rfl ?_
        refine ez_heard dX10_asks_38 xlX10_372 ?_
        refine ez_iload (i := 4) dX10_asks_41 rfl ?_
        refine ez_xi dX10_asks_43 (Or.inl rfl) hC.hm.1 (vp_in_nI hk (by decide)) ?_
        refine ez_icmp_gt (tgt := 82) dX10_asks_44 (by decide) (fun c7 => absurd c7 (show ¬ I1 1000050 (nI k).toNatClampNeg < nI j from by rw [hK4.C.hmk hk]; exact Int32.not_lt.mpr (nI_le (by omega) (by have := (zhm_k k hk).2; omega)))) (fun c7 => ?_)
        refine ez_aload_n (i := 0) dX10_asks_47 rfl rfl ?_
        refine ez_iload_n (i := 1) dX10_asks_48 rfl rfl ?_
        refine ez_iload (i := 4) dX10_asks_49 rfl ?_
        refine ez_iload (i := 5) dX10_asks_51 rfl ?_
        refine ez_callV (M1 := mX10_leftBehind) (rest := []) dX10_asks_53 mlX10_378 mvX10_leftBehind rfl (hF.lt (by decide)) (hF.kc (by decide) rfl) (Nat.le_of_ble_eq_true rfl) rfl (k_lbh (T := T) (I := I1) (L := L) (d + 38) hK4 hO hH bi (z_n9 (N := 4) (n0 := k) (by omega) (by decide)) (nI j)) eb_rok ?_
        rintro _ _ ⟨rfl, rfl⟩
        show ez_P _ _ _ _ _ _ 56 [(5, .int (nI j)), (3, .int ls2), (2, .int ch2), (4, .int (nI k)), (1, .int bi), (0, .ref 0)] (.int (z_mst T bi (nI k) (nI j)) :: []) _ _
        refine ez_istore (l' := [(6, .int (z_mst T bi (nI k) (nI j))), (5, .int (nI j)), (3, .int ls2), (2, .int ch2), (4, .int (nI k)), (1, .int bi), (0, .ref 0)]) dX10_asks_56 (by decide) rfl ?_
        refine ez_iload (i := 6) dX10_asks_58 rfl ?_
        refine ez_iload_n (i := 3) dX10_asks_60 rfl rfl ?_
        refine ez_icmp_ge (tgt := 76) dX10_asks_61 (by decide) (fun c8 => ?_) (fun c8 => ?_)
        · skip
          refine ez_iinc (v := (nI (j + 1))) (l' := [(5, .int ((nI (j + 1)))), (6, .int (z_mst T bi (nI k) (nI j))), (3, .int ls2), (2, .int ch2), (4, .int (nI k)), (1, .int bi), (0, .ref 0)]) dX10_asks_76 rfl (nI_1 _) (by decide) rfl ?_
          refine ez_goto (tgt := 36) dX10_asks_79 (by decide) ?_
          refine ez_sub (l' := [(5, .int ((nI (j + 1)))), (3, .int ls2), (2, .int ch2), (4, .int (nI k)), (1, .int bi), (0, .ref 0)]) [0, 2, 3, 4, 5, 6] rfl ?_
          exact ez_eq (l2 := [(5, .int (nI (j + 1))), (3, .int ls2), (2, .int ch2), (4, .int (nI k)), (1, .int bi), (0, .ref 0)]) rfl rfl rfl rfl (ih2 (ch2, ls2) (Or.inr (by have hz := zhm_k k hk; rw [show 10 * k + (j + 1) = (10 * k + j) + 1 from rfl, a_ask, b_ask, show (10 * k + j) % 10 = j from by omega, show (10 * k + j) / 10 = k from by omega, hz.1, if_pos (nI_le (by omega) (by omega))]; exact z_am0 (z_mst_8 hc7 hft).1 hin2 c8)))
        · skip
          refine ez_iload (i := 6) dX10_asks_64 rfl ?_
          refine ez_istore_n (l' := [(3, .int (z_mst T bi (nI k) (nI j))), (6, .int (z_mst T bi (nI k) (nI j))), (5, .int (nI j)), (2, .int ch2), (4, .int (nI k)), (1, .int bi), (0, .ref 0)]) dX10_asks_66 rfl (by decide) rfl ?_
          refine ez_bipush (v := 10) dX10_asks_67 (by decide) ?_
          refine ez_iload (i := 4) dX10_asks_69 rfl ?_
          refine ez_imul dX10_asks_71 ?_
          refine ez_topE (y := nI (10 * k)) (nI_mul _ _) ?_
          refine ez_iload (i := 5) dX10_asks_72 rfl ?_
          refine ez_iadd dX10_asks_74 ?_
          refine ez_topE (y := nI ((10 * k) + j)) (nI_add _ _) ?_
          refine ez_istore_n (l' := [(2, .int (nI ((10 * k) + j))), (3, .int (z_mst T bi (nI k) (nI j))), (6, .int (z_mst T bi (nI k) (nI j))), (5, .int (nI j)), (4, .int (nI k)), (1, .int bi), (0, .ref 0)]) dX10_asks_75 rfl (by decide) rfl ?_
          refine ez_iinc (v := (nI (j + 1))) (l' := [(5, .int ((nI (j + 1)))), (2, .int (nI ((10 * k) + j))), (3, .int (z_mst T bi (nI k) (nI j))), (6, .int (z_mst T bi (nI k) (nI j))), (4, .int (nI k)), (1, .int bi), (0, .ref 0)]) dX10_asks_76 rfl (nI_1 _) (by decide) rfl ?_
          refine ez_goto (tgt := 36) dX10_asks_79 (by decide) ?_
          refine ez_sub (l' := [(5, .int ((nI (j + 1)))), (3, .int (z_mst T bi (nI k) (nI j))), (2, .int (nI ((10 * k) + j))), (4, .int (nI k)), (1, .int bi), (0, .ref 0)]) [0, 2, 1, 4, 5, 6] rfl ?_
          exact ez_eq (l2 := [(5, .int (nI (j + 1))), (3, .int (z_mst T bi (nI k) (nI j))), (2, .int (nI ((10 * k) + j))), (4, .int (nI k)), (1, .int bi), (0, .ref 0)]) rfl rfl rfl rfl (ih2 (nI ((10 * k) + j), z_mst T bi (nI k) (nI j)) (Or.inr (by have hz := zhm_k k hk; rw [show 10 * k + (j + 1) = (10 * k + j) + 1 from rfl, a_ask, b_ask, show (10 * k + j) % 10 = j from by omega, show (10 * k + j) / 10 = k from by omega, hz.1, if_pos (nI_le (by omega) (by omega))]; exact z_am1 (z_mst_8 hc7 hft).2 hin2 c8)))
      · rintro ⟨ch2, ls2⟩ hin2
        have hin2 : (((k = 0 ∧ (zhm k + 1) = 0) ∧ a_ask T bi (10 * k + (zhm k + 1)) = (-1, 1000000) ∧ ls2 = 8) ∨ (ch2, ls2) = a_ask T bi (10 * k + (zhm k + 1))) := hin2
        show ez_P _ _ _ _ _ _ 36 [(5, .int (nI (zhm k + 1))), (3, .int ls2), (2, .int ch2), (4, .int (nI k)), (1, .int bi), (0, .ref 0)] [] (n, sl, kd, I1, L, Rf) _
        refine ez_iload (i := 5) dX10_asks_36 rfl ?_
        refine ez_heard dX10_asks_38 xlX10_372 ?_
        refine ez_iload (i := 4) dX10_asks_41 rfl ?_
        refine ez_xi dX10_asks_43 (Or.inl rfl) hC.hm.1 (vp_in_nI hk (by decide)) ?_
        refine ez_icmp_gt (tgt := 82) dX10_asks_44 (by decide) (fun c9 => ?_) (fun c9 => absurd (show I1 1000050 (nI k).toNatClampNeg < nI (zhm k + 1) from by rw [hK4.C.hmk hk]; exact nI_lt (by omega) (by have := (zhm_k k hk).2; omega)) c9)
        refine ez_iinc (v := (nI (k + 1))) (l' := [(4, .int ((nI (k + 1)))), (5, .int (nI (zhm k + 1))), (3, .int ls2), (2, .int ch2), (1, .int bi), (0, .ref 0)]) dX10_asks_82 rfl (nI_1 _) (by decide) rfl ?_
        refine ez_goto (tgt := 24) dX10_asks_85 (by decide) ?_
        refine ez_sub (l' := [(4, .int ((nI (k + 1)))), (3, .int ls2), (2, .int ch2), (1, .int bi), (0, .ref 0)]) [0, 2, 3, 4, 5] rfl ?_
        exact ez_eq (l2 := [(4, .int (nI (k + 1))), (3, .int ls2), (2, .int ch2), (1, .int bi), (0, .ref 0)]) rfl rfl rfl rfl (ih (ch2, ls2) (Or.inr (by rcases hin2 with ⟨⟨_, e⟩, _⟩ | h; omega; rw [show 10 * (k + 1) = 10 * k + 10 from rfl, a_ask_skip hk 10 (by have := (zhm_k k hk).2; omega) (Nat.le_refl _)]; exact h)))
    · rintro ⟨ch, ls⟩ hin
      have hin : ((5 = 0 ∧ a_ask T bi (10 * 5) = (-1, 1000000) ∧ ls = 8) ∨ (ch, ls) = a_ask T bi (10 * 5)) := hin
      show ez_P _ _ _ _ _ _ 24 [(4, .int (nI 5)), (3, .int ls), (2, .int ch), (1, .int bi), (0, .ref 0)] [] (n, sl, kd, I1, L, Rf) _
      refine ez_iload (i := 4) dX10_asks_24 rfl ?_
      refine ez_heard dX10_asks_26 xlX10_372 ?_
      refine ez_xlen (v := 5) dX10_asks_29 (Or.inl rfl) (by show Int32.ofNat (kd 1000050).2 = 5; rw [hC.hm.1]; decide) ?_
      refine ez_icmp_ge (tgt := 88) dX10_asks_30 (by decide) (fun c10 => ?_) (fun c10 => absurd (by decide) c10)
      refine ez_aload_n (i := 0) dX10_asks_88 rfl rfl ?_
      refine ez_getR dX10_asks_89 flX10_19 (hF.lt (by decide)) (hF.kc (by decide) rfl) (hF.pt 3 rfl) ?_
      refine ez_iload_n (i := 3) dX10_asks_92 rfl rfl ?_
      refine ez_callV (M1 := mX4_tell) (rest := []) dX10_asks_93 mlX10_285 mvX4_tell rfl (hF.lt (by decide)) (hF.kc (by decide) rfl) (Nat.le_of_ble_eq_true rfl) rfl (y_X4_tell (I := I1) (L := L) (d + 58) hF ls) z_tok ?_
      rintro _ _ ⟨rfl, I11, L12, rfl, hr13, ho14⟩
      show ez_P _ _ _ _ _ _ 96 [(4, .int (nI 5)), (3, .int ls), (2, .int ch), (1, .int bi), (0, .ref 0)] [] (n, sl, kd, I11, L12, Rf) _
      have hK15 : zK n kd I L Rf I I11 L12 Rf (T.w_rw [ls.toInt64]) none none true := by exact hK4.tell hr13 ho14
      refine ez_iload_n (i := 2) dX10_asks_96 rfl rfl ?_
      refine ez_iret dX10_asks_97 rfl rfl ?_
      have hac : (ch, ls) = a_ask T bi 50 := by rcases hin with ⟨e, _⟩ | h; exact absurd e (by decide); exact h
      rw [show s_asks T = (ch, T.w_rw [ls.toInt64]) from by unfold s_asks; rw [hbi, if_neg hne, ← hac]]
      exact hK15.end
  · skip
    refine ez_bipush (v := (-2)) dX10_asks_13 (by decide) ?_
    refine ez_iret dX10_asks_15 rfl rfl ?_
    rw [show s_asks T = (-2, T) from by unfold s_asks; rw [if_pos (Classical.not_not.mp c5)]]
    exact hK4.end
