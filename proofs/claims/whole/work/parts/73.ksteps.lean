/-! steps on the class -/
/-- a brother's weight by a thought and so many others of it -/
def zwa (T : zT) (b t k : Nat) : Int32 := z_put (T.rv (z_t7 (T.x b) (T.pr t) (nI k) (z_ab (T.x (14 + b))) (z_ab (T.x 22)) (nI b) (T.x 25 - T.x 25 / 7 * 7))) 0 20
theorem k_was {n : Nat} {sl : Nat × Nat} {kd : Nat → Nat × Nat} {I : Nat → Nat → Int32} {L : Nat → Nat → Int64} {Rf : Nat → Nat → Option Nat} {T : zT} {H : Nat} (d : Nat) (hC : zC n kd I L Rf T) (hO : zOk H T) {b t : Nat} (hb : b < T.c) (ht : t < 6) (k : Nat) : zq mX6_weightAs (d + 2) [.ref 5, .ref 21, .int (nI b), .int (nI t), .int (nI k)] (n, sl, kd, I, L, Rf) (eb_r (zwa T b t k) (n, sl, kd, I, L, Rf)) := by
  obtain ⟨a, hS, hu⟩ := hC.S
  obtain ⟨s0, h40, hs0, hv⟩ := hu.v
  have hs := hC.sh
  have h := y_X6_weightAs (sl := sl) (L := L) d hC.F hS (j := 21) (by decide) (hs.thk hO.x hO.c) hs0 h40 (b := b) (by have := hO.c; omega) ht (nI k)
  rw [show z_wa (I (a + 1)) s0 (I (21 + 1) b) (I 6 t) (nI k) (I (21 + 3) b) (I 21 5) (nI b) (I 21 8) = zwa T b t k from by
    unfold z_wa zwa
    rw [hv, show I (21 + 1) b = T.x b from hs.g b hb, hC.pr t ht, show I (21 + 3) b = T.x (14 + b) from hs.p b hb, hs.l, hs.h]] at h
  exact h
/-- the table of weights, as far as it is laid -/
def zlt (T : zT) (g : Nat → Nat → Int32) : Prop := ∀ b, b < T.c → ∀ t, t < 6 → ∀ k, k < T.c → g 111 ((b * 6 + t) * 7 + k) = zwa T b t k
theorem k_wit {n : Nat} {sl : Nat × Nat} {kd : Nat → Nat × Nat} {I : Nat → Nat → Int32} {L : Nat → Nat → Int64} {Rf : Nat → Nat → Option Nat} (d : Nat) {T : zT} {H : Nat} {I0 g : Nat → Nat → Int32} {L0 : Nat → Nat → Int64} {R0 : Nat → Nat → Option Nat} {G Bf : Option (Nat → Int32)} {w : Bool} (hK : zK n kd I0 L0 R0 g I L Rf T G Bf w) (hO : zOk H T) (hH : H ≤ 1000000000) : zq mX10_weighAllIfTold (d + 20) [.ref 0] (n, sl, kd, I, L, Rf) (zpKg n sl kd I0 L0 R0 L Rf T G Bf w none (zlt T)) := by
  have hC := hK.C; have hF := hC.F; have hc7 := hO.c
  intro f B
  refine ez_meth pn_X.2.2.2.2.2.2.2.2.2.2.1 (Nat.le_of_ble_eq_true rfl) ?_
  show ez_P _ _ _ _ _ _ 0 [(0, .ref 0)] [] (n, sl, kd, I, L, Rf) _
  refine ez_iconst (v := 0) dX10_weighAllIfTold_0 (by decide) ?_
  refine ez_istore_n (l' := [(1, .int 0), (0, .ref 0)]) dX10_weighAllIfTold_1 rfl (by decide) rfl ?_
  refine ez_eq (l2 := [(1, .int (nI 0)), (0, .ref 0)]) (σ2 := (n, sl, kd, I, L, Rf)) rfl rfl rfl rfl ?_
  refine ez_for T.c (fun k (a : (Nat → Nat → Int32) × (Nat → Nat → Int32)) => ([(1, .int (nI k)), (0, .ref 0)], (n, sl, kd, a.1, L, Rf))) (fun k a => zK n kd I0 L0 R0 a.2 a.1 L Rf T G Bf w ∧ (∀ q, q ≠ 111 → a.2 q = g q) ∧ (∀ b, b < k → ∀ t, t < 6 → ∀ q, q < T.c → a.2 111 ((b * 6 + t) * 7 + q) = zwa T b t q)) ?_ ?_ T.c 0 (I, g) (by omega) ⟨hK, ⟨fun _ _ => rfl, fun b hb => absurd hb (Nat.not_lt_zero b)⟩⟩
  · rintro k ⟨Ia, ga⟩ hk ⟨hKl, hex⟩ ih
    have hKl : zK n kd I0 L0 R0 ga Ia L Rf T G Bf w := hKl
    have hex : (∀ q, q ≠ 111 → ga q = g q) ∧ (∀ b, b < k → ∀ t, t < 6 → ∀ q, q < T.c → ga 111 ((b * 6 + t) * 7 + q) = zwa T b t q) := hex
    show ez_P _ _ _ _ _ _ 2 [(1, .int (nI k)), (0, .ref 0)] [] (n, sl, kd, Ia, L, Rf) _
    refine ez_iload_n (i := 1) dX10_weighAllIfTold_2 rfl rfl ?_
    refine ez_aload_n (i := 0) dX10_weighAllIfTold_3 rfl rfl ?_
    refine ez_getR dX10_weighAllIfTold_4 flX10_33 (hF.lt (by decide)) (hF.kc (by decide) rfl) (hF.pt 21 rfl) ?_
    refine ez_getI dX10_weighAllIfTold_7 flX10_126 (hF.lt (by decide)) (hF.kc (by decide) rfl) ?_
    refine ez_topE (y := nI T.c) hKl.C.sh.cr ?_
    refine ez_icmp_ge (tgt := 82) dX10_weighAllIfTold_10 (by decide) (fun c1 => absurd c1 (nI_ge hk (by omega))) (fun c1 => ?_)
    refine ez_iconst (v := 0) dX10_weighAllIfTold_13 (by decide) ?_
    refine ez_istore_n (l' := [(2, .int 0), (1, .int (nI k)), (0, .ref 0)]) dX10_weighAllIfTold_14 rfl (by decide) rfl ?_
    refine ez_eq (l2 := [(2, .int (nI 0)), (1, .int (nI k)), (0, .ref 0)]) (σ2 := (n, sl, kd, Ia, L, Rf)) rfl rfl rfl rfl ?_
    refine ez_for 6 (fun j (a : (Nat → Nat → Int32) × (Nat → Nat → Int32)) => ([(2, .int (nI j)), (1, .int (nI k)), (0, .ref 0)], (n, sl, kd, a.1, L, Rf))) (fun j a => zK n kd I0 L0 R0 a.2 a.1 L Rf T G Bf w ∧ (∀ q, q ≠ 111 → a.2 q = g q) ∧ (∀ b, b < k → ∀ t, t < 6 → ∀ q, q < T.c → a.2 111 ((b * 6 + t) * 7 + q) = zwa T b t q) ∧ (∀ t, t < j → ∀ q, q < T.c → a.2 111 ((k * 6 + t) * 7 + q) = zwa T k t q)) ?_ ?_ 6 0 (Ia, ga) (by omega) ⟨hKl, ⟨hex.1, hex.2, (fun q hq => absurd hq (Nat.not_lt_zero q))⟩⟩
    · rintro j ⟨Ia2, gb⟩ hk2 ⟨hKl2, hex2⟩ ih2
      have hKl2 : zK n kd I0 L0 R0 gb Ia2 L Rf T G Bf w := hKl2
      have hex2 : (∀ q, q ≠ 111 → gb q = g q) ∧ (∀ b, b < k → ∀ t, t < 6 → ∀ q, q < T.c → gb 111 ((b * 6 + t) * 7 + q) = zwa T b t q) ∧ (∀ t, t < j → ∀ q, q < T.c → gb 111 ((k * 6 + t) * 7 + q) = zwa T k t q) := hex2
      show ez_P _ _ _ _ _ _ 15 [(2, .int (nI j)), (1, .int (nI k)), (0, .ref 0)] [] (n, sl, kd, Ia2, L, Rf) _
      refine ez_iload_n (i := 2) dX10_weighAllIfTold_15 rfl rfl ?_
      refine ez_bipush (v := 6) dX10_weighAllIfTold_16 (by decide) ?_
      refine ez_icmp_ge (tgt := 76) dX10_weighAllIfTold_18 (by decide) (fun c2 => absurd c2 (nI_ge (b := 6) hk2 (by decide))) (fun c2 => ?_)
      refine ez_iconst (v := 0) dX10_weighAllIfTold_21 (by decide) ?_
      refine ez_istore_n (l' := [(3, .int 0), (2, .int (nI j)), (1, .int (nI k)), (0, .ref 0)]) dX10_weighAllIfTold_22 rfl (by decide) rfl ?_
      refine ez_eq (l2 := [(3, .int (nI 0)), (2, .int (nI j)), (1, .int (nI k)), (0, .ref 0)]) (σ2 := (n, sl, kd, Ia2, L, Rf)) rfl rfl rfl rfl ?_
      refine ez_for T.c (fun i (a : (Nat → Nat → Int32) × (Nat → Nat → Int32)) => ([(3, .int (nI i)), (2, .int (nI j)), (1, .int (nI k)), (0, .ref 0)], (n, sl, kd, a.1, L, Rf))) (fun i a => zK n kd I0 L0 R0 a.2 a.1 L Rf T G Bf w ∧ (∀ q, q ≠ 111 → a.2 q = g q) ∧ (∀ b, b < k → ∀ t, t < 6 → ∀ q, q < T.c → a.2 111 ((b * 6 + t) * 7 + q) = zwa T b t q) ∧ (∀ t, t < j → ∀ q, q < T.c → a.2 111 ((k * 6 + t) * 7 + q) = zwa T k t q) ∧ (∀ q, q < i → a.2 111 ((k * 6 + j) * 7 + q) = zwa T k j q)) ?_ ?_ T.c 0 (Ia2, gb) (by omega) ⟨hKl2, ⟨hex2.1, hex2.2.1, hex2.2.2, (fun q hq => absurd hq (Nat.not_lt_zero q))⟩⟩
      · rintro i ⟨Ia3, gc⟩ hk3 ⟨hKl3, hex3⟩ ih3
        have hKl3 : zK n kd I0 L0 R0 gc Ia3 L Rf T G Bf w := hKl3
        have hex3 : (∀ q, q ≠ 111 → gc q = g q) ∧ (∀ b, b < k → ∀ t, t < 6 → ∀ q, q < T.c → gc 111 ((b * 6 + t) * 7 + q) = zwa T b t q) ∧ (∀ t, t < j → ∀ q, q < T.c → gc 111 ((k * 6 + t) * 7 + q) = zwa T k t q) ∧ (∀ q, q < i → gc 111 ((k * 6 + j) * 7 + q) = zwa T k j q) := hex3
        show ez_P _ _ _ _ _ _ 23 [(3, .int (nI i)), (2, .int (nI j)), (1, .int (nI k)), (0, .ref 0)] [] (n, sl, kd, Ia3, L, Rf) _
        refine ez_iload_n (i := 3) dX10_weighAllIfTold_23 rfl rfl ?_
        refine ez_aload_n (i := 0) dX10_weighAllIfTold_24 rfl rfl ?_
        refine ez_getR dX10_weighAllIfTold_25 flX10_33 (hF.lt (by decide)) (hF.kc (by decide) rfl) (hF.pt 21 rfl) ?_
        refine ez_getI dX10_weighAllIfTold_28 flX10_126 (hF.lt (by decide)) (hF.kc (by decide) rfl) ?_
        refine ez_topE (y := nI T.c) hKl3.C.sh.cr ?_
        refine ez_icmp_ge (tgt := 70) dX10_weighAllIfTold_31 (by decide) (fun c3 => absurd c3 (nI_ge hk3 (by omega))) (fun c3 => ?_)
        refine ez_aload_n (i := 0) dX10_weighAllIfTold_34 rfl rfl ?_
        refine ez_getR dX10_weighAllIfTold_35 flX10_101 (hF.lt (by decide)) (hF.kc (by decide) rfl) (hF.pt 106 rfl) ?_
        refine ez_iload_n (i := 1) dX10_weighAllIfTold_38 rfl rfl ?_
        refine ez_bipush (v := 6) dX10_weighAllIfTold_39 (by decide) ?_
        refine ez_imul dX10_weighAllIfTold_41 ?_
        refine ez_topE (y := nI (k * 6)) (nI_mul _ _) ?_
        refine ez_iload_n (i := 2) dX10_weighAllIfTold_42 rfl rfl ?_
        refine ez_iadd dX10_weighAllIfTold_43 ?_
        refine ez_topE (y := nI ((k * 6) + j)) (nI_add _ _) ?_
        refine ez_bipush (v := 7) dX10_weighAllIfTold_44 (by decide) ?_
        refine ez_imul dX10_weighAllIfTold_46 ?_
        refine ez_topE (y := nI (((k * 6) + j) * 7)) (nI_mul _ _) ?_
        refine ez_iload_n (i := 3) dX10_weighAllIfTold_47 rfl rfl ?_
        refine ez_iadd dX10_weighAllIfTold_48 ?_
        refine ez_topE (y := nI ((((k * 6) + j) * 7) + i)) (nI_add _ _) ?_
        refine ez_aload_n (i := 0) dX10_weighAllIfTold_49 rfl rfl ?_
        refine ez_getR dX10_weighAllIfTold_50 flX10_26 (hF.lt (by decide)) (hF.kc (by decide) rfl) (hF.pt 4 rfl) ?_
        refine ez_aload_n (i := 0) dX10_weighAllIfTold_53 rfl rfl ?_
        refine ez_getR dX10_weighAllIfTold_54 flX10_33 (hF.lt (by decide)) (hF.kc (by decide) rfl) (hF.pt 21 rfl) ?_
        refine ez_iload_n (i := 1) dX10_weighAllIfTold_57 rfl rfl ?_
        refine ez_iload_n (i := 2) dX10_weighAllIfTold_58 rfl rfl ?_
        refine ez_iload_n (i := 3) dX10_weighAllIfTold_59 rfl rfl ?_
        refine ez_callV (M1 := mX6_weightAs) (rest := [.int (nI ((((k * 6) + j) * 7) + i)), .ref 111]) dX10_weighAllIfTold_60 mlX10_310 mvX6_weightAs rfl (hF.lt (by decide)) (hF.kc (by decide) rfl) (Nat.le_of_ble_eq_true rfl) rfl (k_was (T := T) (I := Ia3) (L := L) (d + 17) hKl3.C hO (b := k) (t := j) hk hk2 i) eb_rok ?_
        rintro _ _ ⟨rfl, rfl⟩
        show ez_P _ _ _ _ _ _ 63 [(3, .int (nI i)), (2, .int (nI j)), (1, .int (nI k)), (0, .ref 0)] (.int (zwa T k j i) :: [.int (nI ((((k * 6) + j) * 7) + i)), .ref 111]) _ _
        refine ez_isN (k := ((((k * 6) + j) * 7) + i)) dX10_weighAllIfTold_63 (hF.lt (by decide)) (hF.lx (by decide)) (hF.ka (by decide) rfl) (by omega) (by decide) ?_
        refine ez_nmI (fun I4 hI4 => ?_)
        have hK5 : zK n kd I0 L0 R0 (z_set gc 111 ((((k * 6) + j) * 7) + i) (zwa T k j i)) I4 L Rf T G Bf w := by rw [hI4]; exact hKl3.gset (by unfold zgk; omega)
        refine ez_iinc (v := (nI (i + 1))) (l' := [(3, .int ((nI (i + 1)))), (2, .int (nI j)), (1, .int (nI k)), (0, .ref 0)]) dX10_weighAllIfTold_64 rfl (nI_1 _) (by decide) rfl ?_
        refine ez_goto (tgt := 23) dX10_weighAllIfTold_67 (by decide) ?_
        exact ez_eq (l2 := [(3, .int (nI (i + 1))), (2, .int (nI j)), (1, .int (nI k)), (0, .ref 0)]) rfl rfl rfl rfl (ih3 (I4, z_set gc 111 ((((k * 6) + j) * 7) + i) (zwa T k j i)) ⟨hK5, (by show (∀ q, q ≠ 111 → (z_set gc 111 ((((k * 6) + j) * 7) + i) (zwa T k j i)) q = g q) ∧ (∀ b, b < k → ∀ t, t < 6 → ∀ q, q < T.c → (z_set gc 111 ((((k * 6) + j) * 7) + i) (zwa T k j i)) 111 ((b * 6 + t) * 7 + q) = zwa T b t q) ∧ (∀ t, t < j → ∀ q, q < T.c → (z_set gc 111 ((((k * 6) + j) * 7) + i) (zwa T k j i)) 111 ((k * 6 + t) * 7 + q) = zwa T k t q) ∧ ∀ q, q < i + 1 → (z_set gc 111 ((((k * 6) + j) * 7) + i) (zwa T k j i)) 111 ((k * 6 + j) * 7 + q) = zwa T k j q; exact ⟨fun q hq => by rw [z_set_ne hq]; exact hex3.1 q hq, fun b hb t ht q hq => by rw [z_set_nk (by omega)]; exact hex3.2.1 b hb t ht q hq, fun t ht q hq => by rw [z_set_nk (by omega)]; exact hex3.2.2.1 t ht q hq, fun q hq => by by_cases e : q = i; rw [e, z_set_at]; rw [z_set_nk (by omega)]; exact hex3.2.2.2 q (by omega)⟩)⟩)
      · rintro ⟨Ia3, gc⟩ ⟨hKl3, hex3⟩
        have hKl3 : zK n kd I0 L0 R0 gc Ia3 L Rf T G Bf w := hKl3
        have hex3 : (∀ q, q ≠ 111 → gc q = g q) ∧ (∀ b, b < k → ∀ t, t < 6 → ∀ q, q < T.c → gc 111 ((b * 6 + t) * 7 + q) = zwa T b t q) ∧ (∀ t, t < j → ∀ q, q < T.c → gc 111 ((k * 6 + t) * 7 + q) = zwa T k t q) ∧ (∀ q, q < T.c → gc 111 ((k * 6 + j) * 7 + q) = zwa T k j q) := hex3
        show ez_P _ _ _ _ _ _ 23 [(3, .int (nI T.c)), (2, .int (nI j)), (1, .int (nI k)), (0, .ref 0)] [] (n, sl, kd, Ia3, L, Rf) _
        refine ez_iload_n (i := 3) dX10_weighAllIfTold_23 rfl rfl ?_
        refine ez_aload_n (i := 0) dX10_weighAllIfTold_24 rfl rfl ?_
        refine ez_getR dX10_weighAllIfTold_25 flX10_33 (hF.lt (by decide)) (hF.kc (by decide) rfl) (hF.pt 21 rfl) ?_
        refine ez_getI dX10_weighAllIfTold_28 flX10_126 (hF.lt (by decide)) (hF.kc (by decide) rfl) ?_
        refine ez_topE (y := nI T.c) hKl3.C.sh.cr ?_
        refine ez_icmp_ge (tgt := 70) dX10_weighAllIfTold_31 (by decide) (fun c6 => ?_) (fun c6 => absurd (nI_le (Nat.le_refl _) (by omega)) c6)
        refine ez_iinc (v := (nI (j + 1))) (l' := [(2, .int ((nI (j + 1)))), (3, .int (nI T.c)), (1, .int (nI k)), (0, .ref 0)]) dX10_weighAllIfTold_70 rfl (nI_1 _) (by decide) rfl ?_
        refine ez_goto (tgt := 15) dX10_weighAllIfTold_73 (by decide) ?_
        refine ez_sub (l' := [(2, .int ((nI (j + 1)))), (1, .int (nI k)), (0, .ref 0)]) [0, 2, 3] rfl ?_
        exact ez_eq (l2 := [(2, .int (nI (j + 1))), (1, .int (nI k)), (0, .ref 0)]) rfl rfl rfl rfl (ih2 (Ia3, gc) ⟨hKl3, ⟨hex3.1, hex3.2.1, fun t ht q hq => by by_cases e : t = j; rw [e]; exact hex3.2.2.2 q hq; exact hex3.2.2.1 t (by omega) q hq⟩⟩)
    · rintro ⟨Ia2, gb⟩ ⟨hKl2, hex2⟩
      have hKl2 : zK n kd I0 L0 R0 gb Ia2 L Rf T G Bf w := hKl2
      have hex2 : (∀ q, q ≠ 111 → gb q = g q) ∧ (∀ b, b < k → ∀ t, t < 6 → ∀ q, q < T.c → gb 111 ((b * 6 + t) * 7 + q) = zwa T b t q) ∧ (∀ t, t < 6 → ∀ q, q < T.c → gb 111 ((k * 6 + t) * 7 + q) = zwa T k t q) := hex2
      show ez_P _ _ _ _ _ _ 15 [(2, .int (nI 6)), (1, .int (nI k)), (0, .ref 0)] [] (n, sl, kd, Ia2, L, Rf) _
      refine ez_iload_n (i := 2) dX10_weighAllIfTold_15 rfl rfl ?_
      refine ez_bipush (v := 6) dX10_weighAllIfTold_16 (by decide) ?_
      refine ez_icmp_ge (tgt := 76) dX10_weighAllIfTold_18 (by decide) (fun c7 => ?_) (fun c7 => absurd (by decide) c7)
      refine ez_iinc (v := (nI (k + 1))) (l' := [(1, .int ((nI (k + 1)))), (2, .int (nI 6)), (0, .ref 0)]) dX10_weighAllIfTold_76 rfl (nI_1 _) (by decide) rfl ?_
      refine ez_goto (tgt := 2) dX10_weighAllIfTold_79 (by decide) ?_
      refine ez_sub (l' := [(1, .int ((nI (k + 1)))), (0, .ref 0)]) [0, 2] rfl ?_
      exact ez_eq (l2 := [(1, .int (nI (k + 1))), (0, .ref 0)]) rfl rfl rfl rfl (ih (Ia2, gb) ⟨hKl2, ⟨hex2.1, fun b hb t ht q hq => by by_cases e : b = k; rw [e]; exact hex2.2.2 t ht q hq; exact hex2.2.1 b (by omega) t ht q hq⟩⟩)
  · rintro ⟨Ia, ga⟩ ⟨hKl, hex⟩
    have hKl : zK n kd I0 L0 R0 ga Ia L Rf T G Bf w := hKl
    have hex : (∀ q, q ≠ 111 → ga q = g q) ∧ (∀ b, b < T.c → ∀ t, t < 6 → ∀ q, q < T.c → ga 111 ((b * 6 + t) * 7 + q) = zwa T b t q) := hex
    show ez_P _ _ _ _ _ _ 2 [(1, .int (nI T.c)), (0, .ref 0)] [] (n, sl, kd, Ia, L, Rf) _
    refine ez_iload_n (i := 1) dX10_weighAllIfTold_2 rfl rfl ?_
    refine ez_aload_n (i := 0) dX10_weighAllIfTold_3 rfl rfl ?_
    refine ez_getR dX10_weighAllIfTold_4 flX10_33 (hF.lt (by decide)) (hF.kc (by decide) rfl) (hF.pt 21 rfl) ?_
    refine ez_getI dX10_weighAllIfTold_7 flX10_126 (hF.lt (by decide)) (hF.kc (by decide) rfl) ?_
    refine ez_topE (y := nI T.c) hKl.C.sh.cr ?_
    refine ez_icmp_ge (tgt := 82) dX10_weighAllIfTold_10 (by decide) (fun c8 => ?_) (fun c8 => absurd (nI_le (Nat.le_refl _) (by omega)) c8)
    refine ez_vret dX10_weighAllIfTold_82 rfl ?_
    exact ⟨rfl, _, _, rfl, hKl, hex.2⟩
/-- a row whose thoughts alone are others than the ship's -/
def zty (T : zT) (y : Nat → Int32) : Prop := (∀ q, q < 7 ∨ 14 ≤ q → y q = T.x q) ∧ ∀ b, b < T.c → ∃ t, t < 6 ∧ y (7 + b) = nI t
theorem zty.xr {T : zT} {H : Nat} {y : Nat → Int32} (h : zty T y) (hO : zOk H T) : zxr T.c H y := by
  have hc := hO.c
  have hx := hO.x
  refine ⟨fun b hb => ?_, h.2, fun b hb => ?_, ?_, ?_, ?_, ?_, ?_⟩
  · rw [h.1 b (by omega)]; exact hx.g b hb
  · rw [h.1 (14 + b) (by omega)]; exact hx.p b hb
  · rw [h.1 21 (by omega)]; exact hx.s
  · rw [h.1 22 (by omega)]; exact hx.l
  · rw [h.1 23 (by omega)]; exact hx.lg
  · rw [h.1 24 (by omega)]; exact hx.ov
  · rw [h.1 25 (by omega)]; exact hx.h
theorem zty.up {T : zT} {y : Nat → Int32} (h : zty T y) (hc : T.c ≤ 7) {b t : Nat} (hb : b < T.c) (ht : t < 6) : zty T (zup y (7 + b) (nI t)) := by
  refine ⟨fun q hq => ?_, fun q hq => ?_⟩
  · rw [zup_ne (by omega)]; exact h.1 q hq
  · by_cases e : q = b
    · rw [e, zup_at]; exact ⟨t, ht, rfl⟩
    · rw [zup_ne (by omega)]; exact h.2 q hq
theorem zty.s {T : zT} {H : Nat} (hO : zOk H T) : zty T T.x := ⟨fun _ _ => rfl, hO.x.t⟩
theorem z_cnt_n {t : Nat → Int32} {x : Int32} {b : Nat} (hb : t b = x) : ∀ c, c ≤ 7 → (b < c → ∃ q, q < c ∧ z_cnt t x c = nI q) ∧ (¬ b < c → ∃ q, q ≤ c ∧ z_cnt t x c = nI q - 1) := by
  intro c
  induction c with
  | zero => intro _; exact ⟨fun h => absurd h (Nat.not_lt_zero b), fun _ => ⟨0, Nat.le_refl _, by show (-1 : Int32) = nI 0 - 1; decide⟩⟩
  | succ c ih =>
    intro hc
    have ih := ih (by omega)
    rw [z_cnt]
    by_cases h1 : b < c
    · refine ⟨fun _ => ?_, fun h => absurd (show b < c + 1 by omega) h⟩
      obtain ⟨q, h2, h3⟩ := ih.1 h1
      rw [h3]
      split
      · exact ⟨q + 1, by omega, nI_1 q⟩
      · exact ⟨q, by omega, Int32.add_zero _⟩
    · obtain ⟨q, h2, h3⟩ := ih.2 h1
      by_cases h4 : b = c
      · refine ⟨fun _ => ⟨q, by omega, ?_⟩, fun h => absurd (show b < c + 1 by omega) h⟩
        rw [h3, if_pos (by rw [← h4]; exact hb), Int32.sub_add_cancel]
      · refine ⟨fun h => absurd h (by omega), fun _ => ?_⟩
        rw [h3]
        split
        · exact ⟨q + 1, by omega, by rw [← nI_1, Int32.sub_eq_add_neg, Int32.sub_eq_add_neg, Int32.add_assoc, Int32.add_comm (-1) 1, ← Int32.add_assoc]⟩
        · exact ⟨q, by omega, Int32.add_zero _⟩
/-- thoughts, and others of the same, as plain numbers -/
def zyt (y : Nat → Int32) (b : Nat) : Nat := (y (7 + b)).toNatClampNeg
def zyo (T : zT) (y : Nat → Int32) (b : Nat) : Nat := (z_cnt (fun o => y (7 + o)) (y (7 + b)) T.c).toNatClampNeg
theorem zty.t {T : zT} {y : Nat → Int32} (h : zty T y) {b : Nat} (hb : b < T.c) : zyt y b < 6 ∧ y (7 + b) = nI (zyt y b) := by
  obtain ⟨t, h1, h2⟩ := h.2 b hb
  have e : zyt y b = t := by unfold zyt; rw [h2, nI_clamp (by omega)]
  rw [e]; exact ⟨h1, h2⟩
theorem zyo_n {T : zT} {y : Nat → Int32} (hc : T.c ≤ 7) {b : Nat} (hb : b < T.c) : zyo T y b < T.c ∧ z_cnt (fun o => y (7 + o)) (y (7 + b)) T.c = nI (zyo T y b) := by
  obtain ⟨q, h1, h2⟩ := (z_cnt_n (t := fun o => y (7 + o)) (x := y (7 + b)) (b := b) rfl T.c hc).1 hb
  have e : zyo T y b = q := by unfold zyo; rw [h2, nI_clamp (by omega)]
  rw [e]; exact ⟨h1, h2⟩
theorem zwa_y {T : zT} {y : Nat → Int32} (h : zty T y) (hc : T.c ≤ 7) {b : Nat} (hb : b < T.c) : zwa T b (zyt y b) (zyo T y b) = zwl T.rv T.pr T.c y (y 22) (y 25) b := by
  unfold zwa zwl
  rw [(zyo_n (T := T) (y := y) hc hb).2, h.1 b (by omega), h.1 (14 + b) (by omega), h.1 22 (by omega), h.1 25 (by omega)]; rfl
theorem zpl_y {T : zT} {y : Nat → Int32} (h : zty T y) : z_pull (zst T y) (zhw T T.x) (T.x 21) = zpl T y := by
  unfold zpl zhw
  rw [h.1 25 (by omega), h.1 21 (by omega)]
def zsy (T : zT) (y : Nat → Int32) (k : Nat) : Int32 := zsl T.rv T.pr T.c y (y 22) (y 25) k
theorem k_oth {n : Nat} {sl : Nat × Nat} {kd : Nat → Nat × Nat} {I : Nat → Nat → Int32} {L : Nat → Nat → Int64} {Rf : Nat → Nat → Option Nat} (d : Nat) {T : zT} (hF : zF n kd Rf) (hc7 : T.c ≤ 7) {y : Nat → Int32} (hs : zcS I 25 T.c y) {b : Nat} (hb : b < T.c) : zq mX7_othersLike d [.ref 25, .int (nI b)] (n, sl, kd, I, L, Rf) (eb_r (nI (zyo T y b)) (n, sl, kd, I, L, Rf)) := by
  have h := y_X7_othersLike (sl := sl) (I := I) (L := L) d (i := 25) (hF.shp (by decide)) (by decide) hs.cr hc7 (b := b) (by omega)
  rw [z_cnt_cg (u := fun o => y (7 + o)) (fun o ho => hs.t o ho), show I (25 + 2) b = y (7 + b) from hs.t b hb, (zyo_n hc7 hb).2] at h
  exact h
theorem k_gst {n : Nat} {sl : Nat × Nat} {kd : Nat → Nat × Nat} {I : Nat → Nat → Int32} {L : Nat → Nat → Int64} {Rf : Nat → Nat → Option Nat} (d : Nat) {T : zT} {H : Nat} {I0 g : Nat → Nat → Int32} {L0 : Nat → Nat → Int64} {R0 : Nat → Nat → Option Nat} {Bf : Option (Nat → Int32)} {y : Nat → Int32} {w : Bool} (hK : zK n kd I0 L0 R0 g I L Rf T (some y) Bf w) (hO : zOk H T) (hH : H ≤ 1000000000) (hy : zty T y) (hg : zlt T g) (v : Int32) : zq mX10_guessStands (d + 20) [.ref 0, .int v] (n, sl, kd, I, L, Rf) (eb_b (z_ab (zpl T y) ≤ v) (n, sl, kd, I, L, Rf)) := by
  have hC := hK.C; have hF := hC.F; have hc7 := hO.c
  intro f B
  refine ez_meth pn_X.2.2.2.2.2.2.2.2.2.2.1 (Nat.le_of_ble_eq_true rfl) ?_
  show ez_P _ _ _ _ _ _ 0 [(0, .ref 0), (1, .int v)] [] (n, sl, kd, I, L, Rf) _
  refine ez_iconst (v := 0) dX10_guessStands_0 (by decide) ?_
  refine ez_istore_n (l' := [(2, .int 0), (0, .ref 0), (1, .int v)]) dX10_guessStands_1 rfl (by decide) rfl ?_
  refine ez_iconst (v := 0) dX10_guessStands_2 (by decide) ?_
  refine ez_istore_n (l' := [(3, .int 0), (2, .int 0), (0, .ref 0), (1, .int v)]) dX10_guessStands_3 rfl (by decide) rfl ?_
  refine ez_eq (l2 := [(3, .int (nI 0)), (2, .int 0), (0, .ref 0), (1, .int v)]) (σ2 := (n, sl, kd, I, L, Rf)) rfl rfl rfl rfl ?_
  refine ez_for T.c (fun k (a : Int32) => ([(3, .int (nI k)), (2, .int a), (0, .ref 0), (1, .int v)], (n, sl, kd, I, L, Rf))) (fun k a => a = zsy T y k) ?_ ?_ T.c 0 (0) (by omega) rfl
  · rintro k ba hk hac ih
    have hac : ba = zsy T y k := hac
    show ez_P _ _ _ _ _ _ 4 [(3, .int (nI k)), (2, .int ba), (0, .ref 0), (1, .int v)] [] (n, sl, kd, I, L, Rf) _
    refine ez_iload_n (i := 3) dX10_guessStands_4 rfl rfl ?_
    refine ez_aload_n (i := 0) dX10_guessStands_5 rfl rfl ?_
    refine ez_getR dX10_guessStands_6 flX10_37 (hF.lt (by decide)) (hF.kc (by decide) rfl) (hF.pt 25 rfl) ?_
    refine ez_getI dX10_guessStands_9 flX10_126 (hF.lt (by decide)) (hF.kc (by decide) rfl) ?_
    refine ez_topE (y := nI T.c) (hK.gs _ rfl).cr ?_
    refine ez_icmp_ge (tgt := 69) dX10_guessStands_12 (by decide) (fun c1 => absurd c1 (nI_ge hk (by omega))) (fun c1 => ?_)
    refine ez_iload_n (i := 3) dX10_guessStands_15 rfl rfl ?_
    refine ez_bipush (v := 6) dX10_guessStands_16 (by decide) ?_
    refine ez_imul dX10_guessStands_18 ?_
    refine ez_topE (y := nI (k * 6)) (nI_mul _ _) ?_
    refine ez_aload_n (i := 0) dX10_guessStands_19 rfl rfl ?_
    refine ez_getR dX10_guessStands_20 flX10_37 (hF.lt (by decide)) (hF.kc (by decide) rfl) (hF.pt 25 rfl) ?_
    refine ez_getR dX10_guessStands_23 flX10_168 (hF.lt (by decide)) (hF.kc (by decide) rfl) (hF.pt 23 rfl) ?_
    refine ez_iload_n (i := 3) dX10_guessStands_26 rfl rfl ?_
    refine ez_iaN (k := k) dX10_guessStands_27 (hF.lt (by decide)) (hF.ka (by decide) rfl) (by omega) (by decide) ?_
    refine ez_topE (y := nI (zyt y k)) (((hK.gs _ rfl).t _ (by omega)).trans (hy.t hk).2) ?_
    refine ez_iadd dX10_guessStands_28 ?_
    refine ez_topE (y := nI ((k * 6) + (zyt y k))) (nI_add _ _) ?_
    refine ez_bipush (v := 7) dX10_guessStands_29 (by decide) ?_
    refine ez_imul dX10_guessStands_31 ?_
    refine ez_topE (y := nI (((k * 6) + (zyt y k)) * 7)) (nI_mul _ _) ?_
    refine ez_aload_n (i := 0) dX10_guessStands_32 rfl rfl ?_
    refine ez_getR dX10_guessStands_33 flX10_37 (hF.lt (by decide)) (hF.kc (by decide) rfl) (hF.pt 25 rfl) ?_
    refine ez_iload_n (i := 3) dX10_guessStands_36 rfl rfl ?_
    refine ez_callV (M1 := mX7_othersLike) (rest := [.int (nI (((k * 6) + (zyt y k)) * 7))]) dX10_guessStands_37 mlX10_314 mvX7_othersLike rfl (hF.lt (by decide)) (hF.kc (by decide) rfl) (Nat.le_of_ble_eq_true rfl) rfl (k_oth (I := I) (L := L) (d + 19) hF hc7 (hK.gs _ rfl) hk) eb_rok ?_
    rintro _ _ ⟨rfl, rfl⟩
    show ez_P _ _ _ _ _ _ 40 [(3, .int (nI k)), (2, .int ba), (0, .ref 0), (1, .int v)] (.int (nI (zyo T y k)) :: [.int (nI (((k * 6) + (zyt y k)) * 7))]) _ _
    refine ez_iadd dX10_guessStands_40 ?_
    refine ez_topE (y := nI ((((k * 6) + (zyt y k)) * 7) + (zyo T y k))) (nI_add _ _) ?_
    refine ez_istore (l' := [(4, .int (nI ((((k * 6) + (zyt y k)) * 7) + (zyo T y k)))), (3, .int (nI k)), (2, .int ba), (0, .ref 0), (1, .int v)]) dX10_guessStands_41 (by decide) rfl ?_
    refine ez_iload_n (i := 2) dX10_guessStands_43 rfl rfl ?_
    refine ez_aload_n (i := 0) dX10_guessStands_44 rfl rfl ?_
    refine ez_getR dX10_guessStands_45 flX10_101 (hF.lt (by decide)) (hF.kc (by decide) rfl) (hF.pt 106 rfl) ?_
    refine ez_iload (i := 4) dX10_guessStands_48 rfl ?_
    refine ez_iaN (k := ((((k * 6) + (zyt y k)) * 7) + (zyo T y k))) dX10_guessStands_50 (hF.lt (by decide)) (hF.ka (by decide) rfl) (by have h1 := (hy.t hk).1; have h2 := (zyo_n (T := T) (y := y) hc7 hk).1; omega) (by decide) ?_
    refine ez_topE (y := zwa T k (zyt y k) (zyo T y k)) ((congrFun (hK.g 111 (by unfold zgk; omega)) _).trans (hg k hk _ (hy.t hk).1 _ (zyo_n hc7 hk).1)) ?_
    refine ez_aload_n (i := 0) dX10_guessStands_51 rfl rfl ?_
    refine ez_getR dX10_guessStands_52 flX10_37 (hF.lt (by decide)) (hF.kc (by decide) rfl) (hF.pt 25 rfl) ?_
    refine ez_getR dX10_guessStands_55 flX10_171 (hF.lt (by decide)) (hF.kc (by decide) rfl) (hF.pt 24 rfl) ?_
    refine ez_iload_n (i := 3) dX10_guessStands_58 rfl rfl ?_
    refine ez_iaN (k := k) dX10_guessStands_59 (hF.lt (by decide)) (hF.ka (by decide) rfl) (by omega) (by decide) ?_
    refine ez_topE (y := y (14 + k)) ((hK.gs _ rfl).p _ (by omega)) ?_
    refine ez_imul dX10_guessStands_60 ?_
    refine ez_iadd dX10_guessStands_61 ?_
    refine ez_istore_n (l' := [(2, .int (ba + ((zwa T k (zyt y k) (zyo T y k)) * (y (14 + k))))), (4, .int (nI ((((k * 6) + (zyt y k)) * 7) + (zyo T y k)))), (3, .int (nI k)), (0, .ref 0), (1, .int v)]) dX10_guessStands_62 rfl (by decide) rfl ?_
    refine ez_iinc (v := (nI (k + 1))) (l' := [(3, .int ((nI (k + 1)))), (2, .int (ba + ((zwa T k (zyt y k) (zyo T y k)) * (y (14 + k))))), (4, .int (nI ((((k * 6) + (zyt y k)) * 7) + (zyo T y k)))), (0, .ref 0), (1, .int v)]) dX10_guessStands_63 rfl (nI_1 _) (by decide) rfl ?_
    refine ez_goto (tgt := 4) dX10_guessStands_66 (by decide) ?_
    refine ez_sub (l' := [(3, .int ((nI (k + 1)))), (2, .int (ba + ((zwa T k (zyt y k) (zyo T y k)) * (y (14 + k))))), (0, .ref 0), (1, .int v)]) [0, 1, 3, 4] rfl ?_
    exact ez_eq (l2 := [(3, .int (nI (k + 1))), (2, .int (ba + ((zwa T k (zyt y k) (zyo T y k)) * (y (14 + k))))), (0, .ref 0), (1, .int v)]) rfl rfl rfl rfl (ih (ba + ((zwa T k (zyt y k) (zyo T y k)) * (y (14 + k)))) (by show _ = zsl _ _ _ _ _ _ (k + 1); rw [zsl, zwa_y hy hc7 hk, hac]; rfl))
  · rintro ba hac
    have hac : ba = zsy T y T.c := hac
    show ez_P _ _ _ _ _ _ 4 [(3, .int (nI T.c)), (2, .int ba), (0, .ref 0), (1, .int v)] [] (n, sl, kd, I, L, Rf) _
    refine ez_iload_n (i := 3) dX10_guessStands_4 rfl rfl ?_
    refine ez_aload_n (i := 0) dX10_guessStands_5 rfl rfl ?_
    refine ez_getR dX10_guessStands_6 flX10_37 (hF.lt (by decide)) (hF.kc (by decide) rfl) (hF.pt 25 rfl) ?_
    refine ez_getI dX10_guessStands_9 flX10_126 (hF.lt (by decide)) (hF.kc (by decide) rfl) ?_
    refine ez_topE (y := nI T.c) (hK.gs _ rfl).cr ?_
    refine ez_icmp_ge (tgt := 69) dX10_guessStands_12 (by decide) (fun c2 => ?_) (fun c2 => absurd (nI_le (Nat.le_refl _) (by omega)) c2)
    refine ez_iload_n (i := 2) dX10_guessStands_69 rfl rfl ?_
    refine ez_aload_n (i := 0) dX10_guessStands_70 rfl rfl ?_
    refine ez_getR dX10_guessStands_71 flX10_26 (hF.lt (by decide)) (hF.kc (by decide) rfl) (hF.pt 4 rfl) ?_
    refine ez_aload_n (i := 0) dX10_guessStands_74 rfl rfl ?_
    refine ez_getR dX10_guessStands_75 flX10_33 (hF.lt (by decide)) (hF.kc (by decide) rfl) (hF.pt 21 rfl) ?_
    refine ez_getI dX10_guessStands_78 flX10_266 (hF.lt (by decide)) (hF.kc (by decide) rfl) ?_
    refine ez_topE (y := T.x 25) hK.C.sh.h ?_
    refine ez_callV (M1 := mX6_windAt) (rest := [.int ba]) dX10_guessStands_81 mlX10_269 mvX6_windAt rfl (hF.lt (by decide)) (hF.kc (by decide) rfl) (Nat.le_of_ble_eq_true rfl) rfl (k_wind (T := T) (I := I) (L := L) (d + 19) hK.C hO (x := T.x) hO.x (by omega)) eb_rok ?_
    rintro _ _ ⟨rfl, rfl⟩
    show ez_P _ _ _ _ _ _ 84 [(3, .int (nI T.c)), (2, .int ba), (0, .ref 0), (1, .int v)] (.int (zhw T T.x) :: [.int ba]) _ _
    refine ez_aload_n (i := 0) dX10_guessStands_84 rfl rfl ?_
    refine ez_getR dX10_guessStands_85 flX10_33 (hF.lt (by decide)) (hF.kc (by decide) rfl) (hF.pt 21 rfl) ?_
    refine ez_getI dX10_guessStands_88 flX10_272 (hF.lt (by decide)) (hF.kc (by decide) rfl) ?_
    refine ez_topE (y := T.x 21) hK.C.sh.s ?_
    refine ez_callS (M1 := mX10_pullOf) (rest := []) dX10_guessStands_91 mlX10_275 msX10_pullOf rfl (Nat.le_of_ble_eq_true rfl) rfl (zq_r (q_X10_pullOf (d + 18) ba (zhw T T.x) (T.x 21)) (n, sl, kd, I, L, Rf)) eb_rok ?_
    rintro _ _ ⟨rfl, rfl⟩
    show ez_P _ _ _ _ _ _ 94 [(3, .int (nI T.c)), (2, .int ba), (0, .ref 0), (1, .int v)] (.int (z_pull ba (zhw T T.x) (T.x 21)) :: []) _ _
    refine ez_topE (y := zpl T y) (by rw [hac]; exact zpl_y hy) ?_
    refine ez_abs dX10_guessStands_94 xmX10_287 (Nat.le_of_ble_eq_true rfl) ?_
    refine ez_topE (y := z_ab (zpl T y)) rfl ?_
    refine ez_iload_n (i := 1) dX10_guessStands_97 rfl rfl ?_
    refine ez_icmp_gt (tgt := 105) dX10_guessStands_98 (by decide) (fun c3 => ?_) (fun c3 => ?_)
    · skip
      refine ez_iconst (v := 0) dX10_guessStands_105 (by decide) ?_
      refine ez_iret dX10_guessStands_106 rfl (by decide) ?_
      exact ⟨rfl, Or.inr ⟨Int32.not_le.mpr c3, rfl⟩⟩
    · skip
      refine ez_iconst (v := 1) dX10_guessStands_101 (by decide) ?_
      refine ez_goto (tgt := 106) dX10_guessStands_102 (by decide) ?_
      refine ez_iret dX10_guessStands_106 rfl (by decide) ?_
      exact ⟨rfl, Or.inl ⟨Int32.not_lt.mp c3, rfl⟩⟩
def pt (T : zT) (v : Int32) (y : Nat → Int32) (b t : Nat) : Option Nat := if ¬ nI t = T.x (7 + b) ∧ z_ab (zpl T (zup y (7 + b) (nI t))) ≤ v then some t else none
def zon (r : Option Nat) : Int32 := match r with
  | some t => nI t
  | none => -1
theorem pt_lt {T : zT} {v : Int32} {y : Nat → Int32} {b : Nat} : ∀ n k t, zfb (pt T v y b) n k = some t → k ≤ t ∧ t < k + n := by
  intro n
  induction n with
  | zero => intro k t h; cases h
  | succ n ih =>
    intro k t h
    rw [zfb] at h
    cases e : pt T v y b k with
    | some u => rw [e] at h; cases h; unfold pt at e; split at e; cases e; exact ⟨Nat.le_refl _, by omega⟩; cases e
    | none => rw [e] at h; have := ih (k + 1) t h; omega
theorem k_tts {n : Nat} {sl : Nat × Nat} {kd : Nat → Nat × Nat} {I : Nat → Nat → Int32} {L : Nat → Nat → Int64} {Rf : Nat → Nat → Option Nat} (d : Nat) {T : zT} {H : Nat} {I0 g : Nat → Nat → Int32} {L0 : Nat → Nat → Int64} {R0 : Nat → Nat → Option Nat} {Bf : Option (Nat → Int32)} {y : Nat → Int32} {w : Bool} (hK : zK n kd I0 L0 R0 g I L Rf T (some y) Bf w) (hO : zOk H T) (hH : H ≤ 1000000000) (hy : zty T y) (hg : zlt T g) {b : Nat} (hb : b < T.c) (hyb : y (7 + b) = T.x (7 + b)) (v : Int32) : zq mX10_tellingThatStands (d + 25) [.ref 0, .int (nI b), .int v] (n, sl, kd, I, L, Rf) (zpK n sl kd I0 L0 R0 g L Rf T (some y) Bf w (some (.int (zon (zfb (pt T v y b) 6 0))))) := by
  have hC := hK.C; have hF := hC.F; have hc7 := hO.c
  intro f B
  refine ez_meth pn_X.2.2.2.2.2.2.2.2.2.2.1 (Nat.le_of_ble_eq_true rfl) ?_
  show ez_P _ _ _ _ _ _ 0 [(0, .ref 0), (1, .int (nI b)), (2, .int v)] [] (n, sl, kd, I, L, Rf) _
  refine ez_iconst (v := (-1)) dX10_tellingThatStands_0 (by decide) ?_
  refine ez_istore_n (l' := [(3, .int ((-1))), (0, .ref 0), (1, .int (nI b)), (2, .int v)]) dX10_tellingThatStands_1 rfl (by decide) rfl ?_
  refine ez_iconst (v := 0) dX10_tellingThatStands_2 (by decide) ?_
  refine ez_istore (l' := [(4, .int 0), (3, .int ((-1))), (0, .ref 0), (1, .int (nI b)), (2, .int v)]) dX10_tellingThatStands_3 (by decide) rfl ?_
  have hK1 : zK n kd I0 L0 R0 g I L Rf T (some (zup y (7 + b) (y (7 + b)))) Bf w := by rw [show zup y (7 + b) (y (7 + b)) = y from zup_id]; exact hK
  refine ez_eq (l2 := [(4, .int (nI 0)), (3, .int ((-1))), (0, .ref 0), (1, .int (nI b)), (2, .int v)]) (σ2 := (n, sl, kd, I, L, Rf)) rfl rfl rfl rfl ?_
  refine ez_for 6 (fun k (a : (Nat → Nat → Int32) × Int32 × Int32) => ([(4, .int (nI k)), (3, .int a.2.1), (0, .ref 0), (1, .int (nI b)), (2, .int v)], (n, sl, kd, a.1, L, Rf))) (fun k a => zK n kd I0 L0 R0 g a.1 L Rf T (some (zup y (7 + b) a.2.2)) Bf w ∧ (a.2.1 = -1 ∧ zfb (pt T v y b) (6 - k) k = zfb (pt T v y b) 6 0 ∨ ∃ t, t < 6 ∧ a.2.1 = nI t ∧ zfb (pt T v y b) 6 0 = some t)) ?_ ?_ 6 0 (I, (-1), y (7 + b)) (by omega) ⟨hK1, (Or.inl ⟨rfl, rfl⟩)⟩
  · rintro k ⟨Ia, fo, pl⟩ hk ⟨hKl, hex⟩ ih
    have hKl : zK n kd I0 L0 R0 g Ia L Rf T (some (zup y (7 + b) pl)) Bf w := hKl
    have hex : (fo = -1 ∧ zfb (pt T v y b) (6 - k) k = zfb (pt T v y b) 6 0 ∨ ∃ t, t < 6 ∧ fo = nI t ∧ zfb (pt T v y b) 6 0 = some t) := hex
    show ez_P _ _ _ _ _ _ 5 [(4, .int (nI k)), (3, .int fo), (0, .ref 0), (1, .int (nI b)), (2, .int v)] [] (n, sl, kd, Ia, L, Rf) _
    refine ez_iload (i := 4) dX10_tellingThatStands_5 rfl ?_
    refine ez_bipush (v := 6) dX10_tellingThatStands_7 (by decide) ?_
    refine ez_icmp_ge (tgt := 59) dX10_tellingThatStands_9 (by decide) (fun c2 => absurd c2 (nI_ge (b := 6) hk (by decide))) (fun c2 => ?_)
    refine ez_iload_n (i := 3) dX10_tellingThatStands_12 rfl rfl ?_
    refine ez_iconst (v := (-1)) dX10_tellingThatStands_13 (by decide) ?_
    refine ez_icmp_ne (tgt := 59) dX10_tellingThatStands_14 (by decide) (fun c3 => ?_) (fun c3 => ?_)
    · skip
      refine ez_aload_n (i := 0) dX10_tellingThatStands_59 rfl rfl ?_
      refine ez_getR dX10_tellingThatStands_60 flX10_37 (hF.lt (by decide)) (hF.kc (by decide) rfl) (hF.pt 25 rfl) ?_
      refine ez_getR dX10_tellingThatStands_63 flX10_168 (hF.lt (by decide)) (hF.kc (by decide) rfl) (hF.pt 23 rfl) ?_
      refine ez_iload_n (i := 1) dX10_tellingThatStands_66 rfl rfl ?_
      refine ez_aload_n (i := 0) dX10_tellingThatStands_67 rfl rfl ?_
      refine ez_getR dX10_tellingThatStands_68 flX10_33 (hF.lt (by decide)) (hF.kc (by decide) rfl) (hF.pt 21 rfl) ?_
      refine ez_getR dX10_tellingThatStands_71 flX10_168 (hF.lt (by decide)) (hF.kc (by decide) rfl) (hF.pt 19 rfl) ?_
      refine ez_iload_n (i := 1) dX10_tellingThatStands_74 rfl rfl ?_
      refine ez_iaN (k := b) dX10_tellingThatStands_75 (hF.lt (by decide)) (hF.ka (by decide) rfl) (by omega) (by decide) ?_
      refine ez_topE (y := T.x (7 + b)) (hKl.C.sh.t _ (by omega)) ?_
      refine ez_isN (k := b) dX10_tellingThatStands_76 (hF.lt (by decide)) (hF.lx (by decide)) (hF.ka (by decide) rfl) (by omega) (by decide) ?_
      refine ez_nmI (fun I4 hI4 => ?_)
      have hK5 : zK n kd I0 L0 R0 g I4 L Rf T (some (zup (zup y (7 + b) pl) (7 + b) (T.x (7 + b)))) Bf w := by rw [hI4]; exact hKl.tho hc7 (by omega)
      have hK6 : zK n kd I0 L0 R0 g I4 L Rf T (some y) Bf w := by rw [show y = zup (zup y (7 + b) pl) (7 + b) (T.x (7 + b)) from by rw [zup_zup, ← hyb, zup_id]]; exact hK5
      refine ez_iload_n (i := 3) dX10_tellingThatStands_77 rfl rfl ?_
      refine ez_iret dX10_tellingThatStands_78 rfl rfl ?_
      rw [show fo = zon (zfb (pt T v y b) 6 0) from (by rcases hex with ⟨h1, _⟩ | ⟨t, h1, h2, h3⟩; exact absurd h1 c3; rw [h2, h3]; rfl)]; exact ⟨rfl, _, rfl, hK6⟩
    · skip
      refine ez_aload_n (i := 0) dX10_tellingThatStands_17 rfl rfl ?_
      refine ez_getR dX10_tellingThatStands_18 flX10_37 (hF.lt (by decide)) (hF.kc (by decide) rfl) (hF.pt 25 rfl) ?_
      refine ez_getR dX10_tellingThatStands_21 flX10_168 (hF.lt (by decide)) (hF.kc (by decide) rfl) (hF.pt 23 rfl) ?_
      refine ez_iload_n (i := 1) dX10_tellingThatStands_24 rfl rfl ?_
      refine ez_iload (i := 4) dX10_tellingThatStands_25 rfl ?_
      refine ez_isN (k := b) dX10_tellingThatStands_27 (hF.lt (by decide)) (hF.lx (by decide)) (hF.ka (by decide) rfl) (by omega) (by decide) ?_
      refine ez_nmI (fun I7 hI7 => ?_)
      have hK8 : zK n kd I0 L0 R0 g I7 L Rf T (some (zup (zup y (7 + b) pl) (7 + b) (nI k))) Bf w := by rw [hI7]; exact hKl.tho hc7 (by omega)
      have hK9 : zK n kd I0 L0 R0 g I7 L Rf T (some (zup y (7 + b) (nI k))) Bf w := by rw [show zup y (7 + b) (nI k) = zup (zup y (7 + b) pl) (7 + b) (nI k) from zup_zup.symm]; exact hK8
      refine ez_iload (i := 4) dX10_tellingThatStands_28 rfl ?_
      refine ez_aload_n (i := 0) dX10_tellingThatStands_30 rfl rfl ?_
      refine ez_getR dX10_tellingThatStands_31 flX10_33 (hF.lt (by decide)) (hF.kc (by decide) rfl) (hF.pt 21 rfl) ?_
      refine ez_getR dX10_tellingThatStands_34 flX10_168 (hF.lt (by decide)) (hF.kc (by decide) rfl) (hF.pt 19 rfl) ?_
      refine ez_iload_n (i := 1) dX10_tellingThatStands_37 rfl rfl ?_
      refine ez_iaN (k := b) dX10_tellingThatStands_38 (hF.lt (by decide)) (hF.ka (by decide) rfl) (by omega) (by decide) ?_
      refine ez_topE (y := T.x (7 + b)) (hK9.C.sh.t _ (by omega)) ?_
      refine ez_icmp_eq (tgt := 53) dX10_tellingThatStands_39 (by decide) (fun c10 => ?_) (fun c10 => ?_)
      · skip
        refine ez_iinc (v := (nI (k + 1))) (l' := [(4, .int ((nI (k + 1)))), (3, .int fo), (0, .ref 0), (1, .int (nI b)), (2, .int v)]) dX10_tellingThatStands_53 rfl (nI_1 _) (by decide) rfl ?_
        refine ez_goto (tgt := 5) dX10_tellingThatStands_56 (by decide) ?_
        exact ez_eq (l2 := [(4, .int (nI (k + 1))), (3, .int fo), (0, .ref 0), (1, .int (nI b)), (2, .int v)]) rfl rfl rfl rfl (ih (I7, fo, (nI k)) ⟨hK9, (Or.inl ⟨Classical.not_not.mp c3, zfb_step (by rcases hex with ⟨_, h⟩ | ⟨t, h1, h2, _⟩; exact h; exact absurd (Classical.not_not.mp c3) (by rw [h2]; exact nI_nm1 t (by omega))) hk (by unfold pt; exact if_neg (fun g => g.1 c10))⟩)⟩)
      · skip
        refine ez_aload_n (i := 0) dX10_tellingThatStands_42 rfl rfl ?_
        refine ez_iload_n (i := 2) dX10_tellingThatStands_43 rfl rfl ?_
        refine ez_callV (M1 := mX10_guessStands) (rest := []) dX10_tellingThatStands_44 mlX10_324 mvX10_guessStands rfl (hF.lt (by decide)) (hF.kc (by decide) rfl) (Nat.le_of_ble_eq_true rfl) rfl (k_gst (T := T) (I := I7) (L := L) (d + 4) hK9 hO hH (hy.up hc7 hb hk) hg v) eb_bok ?_
        rintro _ _ ⟨rfl, ⟨b11, rfl⟩ | ⟨b11, rfl⟩⟩
        · show ez_P _ _ _ _ _ _ 47 [(4, .int (nI k)), (3, .int fo), (0, .ref 0), (1, .int (nI b)), (2, .int v)] (.int 1 :: []) _ _
          refine ez_if_eq (tgt := 53) dX10_tellingThatStands_47 (by decide) (fun c12 => absurd c12 (by decide)) (fun c12 => ?_)
          refine ez_iload (i := 4) dX10_tellingThatStands_50 rfl ?_
          refine ez_istore_n (l' := [(3, .int (nI k)), (4, .int (nI k)), (0, .ref 0), (1, .int (nI b)), (2, .int v)]) dX10_tellingThatStands_52 rfl (by decide) rfl ?_
          refine ez_iinc (v := (nI (k + 1))) (l' := [(4, .int ((nI (k + 1)))), (3, .int (nI k)), (0, .ref 0), (1, .int (nI b)), (2, .int v)]) dX10_tellingThatStands_53 rfl (nI_1 _) (by decide) rfl ?_
          refine ez_goto (tgt := 5) dX10_tellingThatStands_56 (by decide) ?_
          exact ez_eq (l2 := [(4, .int (nI (k + 1))), (3, .int (nI k)), (0, .ref 0), (1, .int (nI b)), (2, .int v)]) rfl rfl rfl rfl (ih (I7, nI k, (nI k)) ⟨hK9, (Or.inr ⟨k, hk, rfl, zfb_hit (by rcases hex with ⟨_, h⟩ | ⟨t, h1, h2, _⟩; exact h; exact absurd (Classical.not_not.mp c3) (by rw [h2]; exact nI_nm1 t (by omega))) hk (by unfold pt; exact if_pos ⟨c10, b11⟩)⟩)⟩)
        · show ez_P _ _ _ _ _ _ 47 [(4, .int (nI k)), (3, .int fo), (0, .ref 0), (1, .int (nI b)), (2, .int v)] (.int 0 :: []) _ _
          refine ez_if_eq (tgt := 53) dX10_tellingThatStands_47 (by decide) (fun c13 => ?_) (fun c13 => absurd (by decide) c13)
          refine ez_iinc (v := (nI (k + 1))) (l' := [(4, .int ((nI (k + 1)))), (3, .int fo), (0, .ref 0), (1, .int (nI b)), (2, .int v)]) dX10_tellingThatStands_53 rfl (nI_1 _) (by decide) rfl ?_
          refine ez_goto (tgt := 5) dX10_tellingThatStands_56 (by decide) ?_
          exact ez_eq (l2 := [(4, .int (nI (k + 1))), (3, .int fo), (0, .ref 0), (1, .int (nI b)), (2, .int v)]) rfl rfl rfl rfl (ih (I7, fo, (nI k)) ⟨hK9, (Or.inl ⟨Classical.not_not.mp c3, zfb_step (by rcases hex with ⟨_, h⟩ | ⟨t, h1, h2, _⟩; exact h; exact absurd (Classical.not_not.mp c3) (by rw [h2]; exact nI_nm1 t (by omega))) hk (by unfold pt; exact if_neg (fun g => b11 g.2))⟩)⟩)
  · rintro ⟨Ia, fo, pl⟩ ⟨hKl, hex⟩
    have hKl : zK n kd I0 L0 R0 g Ia L Rf T (some (zup y (7 + b) pl)) Bf w := hKl
    have hex : (fo = -1 ∧ zfb (pt T v y b) (6 - 6) 6 = zfb (pt T v y b) 6 0 ∨ ∃ t, t < 6 ∧ fo = nI t ∧ zfb (pt T v y b) 6 0 = some t) := hex
    show ez_P _ _ _ _ _ _ 5 [(4, .int (nI 6)), (3, .int fo), (0, .ref 0), (1, .int (nI b)), (2, .int v)] [] (n, sl, kd, Ia, L, Rf) _
    refine ez_iload (i := 4) dX10_tellingThatStands_5 rfl ?_
    refine ez_bipush (v := 6) dX10_tellingThatStands_7 (by decide) ?_
    refine ez_icmp_ge (tgt := 59) dX10_tellingThatStands_9 (by decide) (fun c14 => ?_) (fun c14 => absurd (by decide) c14)
    refine ez_aload_n (i := 0) dX10_tellingThatStands_59 rfl rfl ?_
    refine ez_getR dX10_tellingThatStands_60 flX10_37 (hF.lt (by decide)) (hF.kc (by decide) rfl) (hF.pt 25 rfl) ?_
    refine ez_getR dX10_tellingThatStands_63 flX10_168 (hF.lt (by decide)) (hF.kc (by decide) rfl) (hF.pt 23 rfl) ?_
    refine ez_iload_n (i := 1) dX10_tellingThatStands_66 rfl rfl ?_
    refine ez_aload_n (i := 0) dX10_tellingThatStands_67 rfl rfl ?_
    refine ez_getR dX10_tellingThatStands_68 flX10_33 (hF.lt (by decide)) (hF.kc (by decide) rfl) (hF.pt 21 rfl) ?_
    refine ez_getR dX10_tellingThatStands_71 flX10_168 (hF.lt (by decide)) (hF.kc (by decide) rfl) (hF.pt 19 rfl) ?_
    refine ez_iload_n (i := 1) dX10_tellingThatStands_74 rfl rfl ?_
    refine ez_iaN (k := b) dX10_tellingThatStands_75 (hF.lt (by decide)) (hF.ka (by decide) rfl) (by omega) (by decide) ?_
    refine ez_topE (y := T.x (7 + b)) (hKl.C.sh.t _ (by omega)) ?_
    refine ez_isN (k := b) dX10_tellingThatStands_76 (hF.lt (by decide)) (hF.lx (by decide)) (hF.ka (by decide) rfl) (by omega) (by decide) ?_
    refine ez_nmI (fun I15 hI15 => ?_)
    have hK16 : zK n kd I0 L0 R0 g I15 L Rf T (some (zup (zup y (7 + b) pl) (7 + b) (T.x (7 + b)))) Bf w := by rw [hI15]; exact hKl.tho hc7 (by omega)
    have hK17 : zK n kd I0 L0 R0 g I15 L Rf T (some y) Bf w := by rw [show y = zup (zup y (7 + b) pl) (7 + b) (T.x (7 + b)) from by rw [zup_zup, ← hyb, zup_id]]; exact hK16
    refine ez_iload_n (i := 3) dX10_tellingThatStands_77 rfl rfl ?_
    refine ez_iret dX10_tellingThatStands_78 rfl rfl ?_
    rw [show fo = zon (zfb (pt T v y b) 6 0) from (by rcases hex with ⟨h1, h2⟩ | ⟨t, h1, h2, h3⟩; rw [h1, zfb_end h2 (Nat.le_refl _)]; rfl; rw [h2, h3]; rfl)]; exact ⟨rfl, _, rfl, hK17⟩
theorem zon_m {r : Option Nat} (h : ∀ t, r = some t → t < 6) : zon r = -1 ↔ r = none := by
  cases r with
  | none => exact ⟨fun _ => rfl, fun _ => rfl⟩
  | some t => exact ⟨fun e => absurd e (nI_nm1 t (by have := h t rfl; omega)), fun e => by cases e⟩
/-- one telling: the first brother and thought -/
def h1 (T : zT) (v : Int32) (b : Nat) : Option Nat := (zfb (pt T v T.x b) 6 0).map (fun t => 10 * b + t)
/-- told or not: the answer 1 and the row, or 0 -/
def zpT2 (n : Nat) (sl : Nat × Nat) (kd : Nat → Nat × Nat) (I0 : Nat → Nat → Int32) (L0 : Nat → Nat → Int64) (R0 : Nat → Nat → Option Nat) (g : Nat → Nat → Int32) (L : Nat → Nat → Int64) (Rf : Nat → Nat → Option Nat) (T : zT) (y : Nat → Int32) (Bf : Option (Nat → Int32)) (w : Bool) (R : Option (List Int64)) : Option Value → eb_S → Prop := fun r τ => match R with
  | some l => r = some (.int 1) ∧ ∃ I1 L1 G1, τ = (n, sl, kd, I1, L1, Rf) ∧ zK n kd I0 L0 R0 g I1 L1 Rf (T.w_rw l) G1 Bf w
  | none => r = some (.int 0) ∧ ∃ I1, τ = (n, sl, kd, I1, L, Rf) ∧ zK n kd I0 L0 R0 g I1 L Rf T (some y) Bf w
theorem zpT2_ok {n : Nat} {sl : Nat × Nat} {kd : Nat → Nat × Nat} {I0 g : Nat → Nat → Int32} {L0 L : Nat → Nat → Int64} {R0 Rf : Nat → Nat → Option Nat} {T : zT} {y : Nat → Int32} {Bf : Option (Nat → Int32)} {w : Bool} {R : Option (List Int64)} {l : List (Nat × Value)} {rest : List Value} : ∀ r1 σ1, zpT2 n sl kd I0 L0 R0 g L Rf T y Bf w R r1 σ1 → σ1.1 = n ∨ ((∀ q ∈ l, eb_okv n q.2) ∧ ∀ v ∈ rest, eb_okv n v) := fun r1 σ1 h => Or.inl (by
  cases R with
  | some l => obtain ⟨_, I1, L1, G1, h, _⟩ := h; rw [h]
  | none => obtain ⟨_, I1, h, _⟩ := h; rw [h])
theorem k_one {n : Nat} {sl : Nat × Nat} {kd : Nat → Nat × Nat} {I : Nat → Nat → Int32} {L : Nat → Nat → Int64} {Rf : Nat → Nat → Option Nat} (d : Nat) {T : zT} {H : Nat} {I0 g : Nat → Nat → Int32} {L0 : Nat → Nat → Int64} {R0 : Nat → Nat → Option Nat} {Bf : Option (Nat → Int32)} {w : Bool} (hK : zK n kd I0 L0 R0 g I L Rf T (some T.x) Bf w) (hO : zOk H T) (hH : H ≤ 1000000000) (hg : zlt T g) (v : Int32) : zq mX10_oneStep (d + 30) [.ref 0, .int v] (n, sl, kd, I, L, Rf) (zpT2 n sl kd I0 L0 R0 g L Rf T T.x Bf w ((zfb (h1 T v) T.c 0).map (fun a => [(nI a).toInt64]))) := by
  have hC := hK.C; have hF := hC.F; have hc7 := hO.c
  intro f B
  refine ez_meth pn_X.2.2.2.2.2.2.2.2.2.2.1 (Nat.le_of_ble_eq_true rfl) ?_
  show ez_P _ _ _ _ _ _ 0 [(0, .ref 0), (1, .int v)] [] (n, sl, kd, I, L, Rf) _
  refine ez_iconst (v := 0) dX10_oneStep_0 (by decide) ?_
  refine ez_istore_n (l' := [(2, .int 0), (0, .ref 0), (1, .int v)]) dX10_oneStep_1 rfl (by decide) rfl ?_
  refine ez_eq (l2 := [(2, .int (nI 0)), (0, .ref 0), (1, .int v)]) (σ2 := (n, sl, kd, I, L, Rf)) rfl rfl rfl rfl ?_
  refine ez_for T.c (fun k (a : (Nat → Nat → Int32)) => ([(2, .int (nI k)), (0, .ref 0), (1, .int v)], (n, sl, kd, a, L, Rf))) (fun k a => zK n kd I0 L0 R0 g a L Rf T (some T.x) Bf w ∧ zfb (h1 T v) (T.c - k) k = zfb (h1 T v) T.c 0) ?_ ?_ T.c 0 (I) (by omega) ⟨hK, rfl⟩
  · rintro k Ia hk ⟨hKl, hex⟩ ih
    have hKl : zK n kd I0 L0 R0 g Ia L Rf T (some T.x) Bf w := hKl
    have hex : zfb (h1 T v) (T.c - k) k = zfb (h1 T v) T.c 0 := hex
    show ez_P _ _ _ _ _ _ 2 [(2, .int (nI k)), (0, .ref 0), (1, .int v)] [] (n, sl, kd, Ia, L, Rf) _
    refine ez_iload_n (i := 2) dX10_oneStep_2 rfl rfl ?_
    refine ez_aload_n (i := 0) dX10_oneStep_3 rfl rfl ?_
    refine ez_getR dX10_oneStep_4 flX10_37 (hF.lt (by decide)) (hF.kc (by decide) rfl) (hF.pt 25 rfl) ?_
    refine ez_getI dX10_oneStep_7 flX10_126 (hF.lt (by decide)) (hF.kc (by decide) rfl) ?_
    refine ez_topE (y := nI T.c) (hKl.gs _ rfl).cr ?_
    refine ez_icmp_ge (tgt := 46) dX10_oneStep_10 (by decide) (fun c1 => absurd c1 (nI_ge hk (by omega))) (fun c1 => ?_)
    refine ez_aload_n (i := 0) dX10_oneStep_13 rfl rfl ?_
    refine ez_iload_n (i := 2) dX10_oneStep_14 rfl rfl ?_
    refine ez_iload_n (i := 1) dX10_oneStep_15 rfl rfl ?_
    refine ez_callV (M1 := mX10_tellingThatStands) (rest := []) dX10_oneStep_16 mlX10_317 mvX10_tellingThatStands rfl (hF.lt (by decide)) (hF.kc (by decide) rfl) (Nat.le_of_ble_eq_true rfl) rfl (k_tts (T := T) (I := Ia) (L := L) (d + 4) hKl hO hH (zty.s hO) hg (b := k) (by omega) rfl v) zpK_ok ?_
    rintro _ _ ⟨rfl, I2, rfl, hK3⟩
    show ez_P _ _ _ _ _ _ 19 [(2, .int (nI k)), (0, .ref 0), (1, .int v)] (.int (zon (zfb (pt T v T.x k) 6 0)) :: []) (n, sl, kd, I2, L, Rf) _
    have hK3 : zK n kd I0 L0 R0 g I2 L Rf T (some T.x) Bf w := hK3
    refine ez_istore_n (l' := [(3, .int (zon (zfb (pt T v T.x k) 6 0))), (2, .int (nI k)), (0, .ref 0), (1, .int v)]) dX10_oneStep_19 rfl (by decide) rfl ?_
    refine ez_iload_n (i := 3) dX10_oneStep_20 rfl rfl ?_
    refine ez_iconst (v := (-1)) dX10_oneStep_21 (by decide) ?_
    refine ez_icmp_eq (tgt := 40) dX10_oneStep_22 (by decide) (fun c4 => ?_) (fun c4 => ?_)
    · skip
      refine ez_iinc (v := (nI (k + 1))) (l' := [(2, .int ((nI (k + 1)))), (3, .int (zon (zfb (pt T v T.x k) 6 0))), (0, .ref 0), (1, .int v)]) dX10_oneStep_40 rfl (nI_1 _) (by decide) rfl ?_
      refine ez_goto (tgt := 2) dX10_oneStep_43 (by decide) ?_
      refine ez_sub (l' := [(2, .int ((nI (k + 1)))), (0, .ref 0), (1, .int v)]) [0, 2, 3] rfl ?_
      exact ez_eq (l2 := [(2, .int (nI (k + 1))), (0, .ref 0), (1, .int v)]) rfl rfl rfl rfl (ih (I2) ⟨hK3, (zfb_step hex hk (by unfold h1; rw [(zon_m (fun t ht => by have := pt_lt 6 0 t ht; omega)).mp c4]; rfl))⟩)
    · skip
      obtain ⟨t, ht⟩ : ∃ t, zfb (pt T v T.x k) 6 0 = some t := by cases e : zfb (pt T v T.x k) 6 0 with | none => exact absurd ((zon_m (fun t ht => by have := pt_lt 6 0 t ht; omega)).mpr e) c4 | some t => exact ⟨t, rfl⟩
      have ht6 := pt_lt 6 0 t ht
      refine ez_eq (l2 := [(3, .int (nI t)), (2, .int (nI k)), (0, .ref 0), (1, .int v)]) rfl (by rw [ht]; rfl) rfl rfl ?_
      refine ez_aload_n (i := 0) dX10_oneStep_25 rfl rfl ?_
      refine ez_getR dX10_oneStep_26 flX10_19 (hF.lt (by decide)) (hF.kc (by decide) rfl) (hF.pt 3 rfl) ?_
      refine ez_bipush (v := 10) dX10_oneStep_29 (by decide) ?_
      refine ez_iload_n (i := 2) dX10_oneStep_31 rfl rfl ?_
      refine ez_imul dX10_oneStep_32 ?_
      refine ez_topE (y := nI (10 * k)) (nI_mul _ _) ?_
      refine ez_iload_n (i := 3) dX10_oneStep_33 rfl rfl ?_
      refine ez_iadd dX10_oneStep_34 ?_
      refine ez_topE (y := nI ((10 * k) + t)) (nI_add _ _) ?_
      refine ez_callV (M1 := mX4_tell) (rest := []) dX10_oneStep_35 mlX10_285 mvX4_tell rfl (hF.lt (by decide)) (hF.kc (by decide) rfl) (Nat.le_of_ble_eq_true rfl) rfl (y_X4_tell (I := I2) (L := L) (d + 28) hF (nI ((10 * k) + t))) z_tok ?_
      rintro _ _ ⟨rfl, I5, L6, rfl, hr7, ho8⟩
      show ez_P _ _ _ _ _ _ 38 [(3, .int (nI t)), (2, .int (nI k)), (0, .ref 0), (1, .int v)] [] (n, sl, kd, I5, L6, Rf) _
      have hK9 : zK n kd I0 L0 R0 g I5 L6 Rf (T.w_rw [(nI ((10 * k) + t)).toInt64]) (some T.x) Bf w := by exact hK3.tell hr7 ho8
      refine ez_iconst (v := 1) dX10_oneStep_38 (by decide) ?_
      refine ez_iret dX10_oneStep_39 rfl (by decide) ?_
      rw [show (zfb (h1 T v) T.c 0).map (fun a => [(nI a).toInt64]) = some [(nI (10 * k + t)).toInt64] from by rw [zfb_hit hex hk (x := 10 * k + t) (by unfold h1; rw [ht]; rfl)]; rfl]
      exact ⟨rfl, _, _, _, rfl, hK9⟩
  · rintro Ia ⟨hKl, hex⟩
    have hKl : zK n kd I0 L0 R0 g Ia L Rf T (some T.x) Bf w := hKl
    have hex : zfb (h1 T v) (T.c - T.c) T.c = zfb (h1 T v) T.c 0 := hex
    show ez_P _ _ _ _ _ _ 2 [(2, .int (nI T.c)), (0, .ref 0), (1, .int v)] [] (n, sl, kd, Ia, L, Rf) _
    refine ez_iload_n (i := 2) dX10_oneStep_2 rfl rfl ?_
    refine ez_aload_n (i := 0) dX10_oneStep_3 rfl rfl ?_
    refine ez_getR dX10_oneStep_4 flX10_37 (hF.lt (by decide)) (hF.kc (by decide) rfl) (hF.pt 25 rfl) ?_
    refine ez_getI dX10_oneStep_7 flX10_126 (hF.lt (by decide)) (hF.kc (by decide) rfl) ?_
    refine ez_topE (y := nI T.c) (hKl.gs _ rfl).cr ?_
    refine ez_icmp_ge (tgt := 46) dX10_oneStep_10 (by decide) (fun c10 => ?_) (fun c10 => absurd (nI_le (Nat.le_refl _) (by omega)) c10)
    refine ez_iconst (v := 0) dX10_oneStep_46 (by decide) ?_
    refine ez_iret dX10_oneStep_47 rfl (by decide) ?_
    rw [show (zfb (h1 T v) T.c 0).map (fun a => [(nI a).toInt64]) = none from by rw [zfb_end hex (Nat.le_refl _)]; rfl]
    exact ⟨rfl, _, rfl, hKl⟩
/-- behind a telling of b: the first of the brothers behind him -/
def h2 (T : zT) (v : Int32) (y : Nat → Int32) (b : Nat) : Option Nat := (zfb (pt T v y b) 6 0).map (fun t => 10 * b + t)
theorem k_two {n : Nat} {sl : Nat × Nat} {kd : Nat → Nat × Nat} {I : Nat → Nat → Int32} {L : Nat → Nat → Int64} {Rf : Nat → Nat → Option Nat} (d : Nat) {T : zT} {H : Nat} {I0 g : Nat → Nat → Int32} {L0 : Nat → Nat → Int64} {R0 : Nat → Nat → Option Nat} {Bf : Option (Nat → Int32)} {w : Bool} {b t : Nat} (hb : b < T.c) (ht : t < 6) (hK : zK n kd I0 L0 R0 g I L Rf T (some (zup T.x (7 + b) (nI t))) Bf w) (hO : zOk H T) (hH : H ≤ 1000000000) (hg : zlt T g) (v : Int32) : zq mX10_secondStep (d + 30) [.ref 0, .int (nI b), .int v] (n, sl, kd, I, L, Rf) (zpT2 n sl kd I0 L0 R0 g L Rf T (zup T.x (7 + b) (nI t)) Bf w ((zfb (h2 T v (zup T.x (7 + b) (nI t))) (T.c - (b + 1)) (b + 1)).map (fun a => [(nI (10 * b + t)).toInt64, (nI a).toInt64]))) := by
  have hC := hK.C; have hF := hC.F; have hc7 := hO.c
  intro f B
  refine ez_meth pn_X.2.2.2.2.2.2.2.2.2.2.1 (Nat.le_of_ble_eq_true rfl) ?_
  show ez_P _ _ _ _ _ _ 0 [(0, .ref 0), (1, .int (nI b)), (2, .int v)] [] (n, sl, kd, I, L, Rf) _
  refine ez_iload_n (i := 1) dX10_secondStep_0 rfl rfl ?_
  refine ez_iconst (v := 1) dX10_secondStep_1 (by decide) ?_
  refine ez_iadd dX10_secondStep_2 ?_
  refine ez_topE (y := nI (b + 1)) (nI_add _ _) ?_
  refine ez_istore_n (l' := [(3, .int (nI (b + 1))), (0, .ref 0), (1, .int (nI b)), (2, .int v)]) dX10_secondStep_3 rfl (by decide) rfl ?_
  refine ez_eq (l2 := [(3, .int (nI (b + 1 + 0))), (0, .ref 0), (1, .int (nI b)), (2, .int v)]) (σ2 := (n, sl, kd, I, L, Rf)) rfl rfl rfl rfl ?_
  refine ez_for (T.c - (b + 1)) (fun k (a : (Nat → Nat → Int32)) => ([(3, .int (nI (b + 1 + k))), (0, .ref 0), (1, .int (nI b)), (2, .int v)], (n, sl, kd, a, L, Rf))) (fun k a => zK n kd I0 L0 R0 g a L Rf T (some (zup T.x (7 + b) (nI t))) Bf w ∧ zfb (h2 T v (zup T.x (7 + b) (nI t))) (T.c - (b + 1 + k)) (b + 1 + k) = zfb (h2 T v (zup T.x (7 + b) (nI t))) (T.c - (b + 1)) (b + 1)) ?_ ?_ (T.c - (b + 1)) 0 (I) (by omega) ⟨hK, rfl⟩
  · rintro k Ia hk ⟨hKl, hex⟩ ih
    have hKl : zK n kd I0 L0 R0 g Ia L Rf T (some (zup T.x (7 + b) (nI t))) Bf w := hKl
    have hex : zfb (h2 T v (zup T.x (7 + b) (nI t))) (T.c - (b + 1 + k)) (b + 1 + k) = zfb (h2 T v (zup T.x (7 + b) (nI t))) (T.c - (b + 1)) (b + 1) := hex
    show ez_P _ _ _ _ _ _ 4 [(3, .int (nI (b + 1 + k))), (0, .ref 0), (1, .int (nI b)), (2, .int v)] [] (n, sl, kd, Ia, L, Rf) _
    refine ez_iload_n (i := 3) dX10_secondStep_4 rfl rfl ?_
    refine ez_aload_n (i := 0) dX10_secondStep_5 rfl rfl ?_
    refine ez_getR dX10_secondStep_6 flX10_37 (hF.lt (by decide)) (hF.kc (by decide) rfl) (hF.pt 25 rfl) ?_
    refine ez_getI dX10_secondStep_9 flX10_126 (hF.lt (by decide)) (hF.kc (by decide) rfl) ?_
    refine ez_topE (y := nI T.c) (hKl.gs _ rfl).cr ?_
    refine ez_icmp_ge (tgt := 65) dX10_secondStep_12 (by decide) (fun c1 => absurd c1 (nI_ge (by omega) (by omega))) (fun c1 => ?_)
    refine ez_aload_n (i := 0) dX10_secondStep_15 rfl rfl ?_
    refine ez_iload_n (i := 3) dX10_secondStep_16 rfl rfl ?_
    refine ez_iload_n (i := 2) dX10_secondStep_17 rfl rfl ?_
    refine ez_callV (M1 := mX10_tellingThatStands) (rest := []) dX10_secondStep_18 mlX10_317 mvX10_tellingThatStands rfl (hF.lt (by decide)) (hF.kc (by decide) rfl) (Nat.le_of_ble_eq_true rfl) rfl (k_tts (T := T) (I := Ia) (L := L) (d + 4) hKl hO hH ((zty.s hO).up hc7 hb ht) hg (b := b + 1 + k) (by omega) (zup_ne (by omega)) v) zpK_ok ?_
    rintro _ _ ⟨rfl, I2, rfl, hK3⟩
    show ez_P _ _ _ _ _ _ 21 [(3, .int (nI (b + 1 + k))), (0, .ref 0), (1, .int (nI b)), (2, .int v)] (.int (zon (zfb (pt T v (zup T.x (7 + b) (nI t)) (b + 1 + k)) 6 0)) :: []) (n, sl, kd, I2, L, Rf) _
    have hK3 : zK n kd I0 L0 R0 g I2 L Rf T (some (zup T.x (7 + b) (nI t))) Bf w := hK3
    refine ez_istore (l' := [(4, .int (zon (zfb (pt T v (zup T.x (7 + b) (nI t)) (b + 1 + k)) 6 0))), (3, .int (nI (b + 1 + k))), (0, .ref 0), (1, .int (nI b)), (2, .int v)]) dX10_secondStep_21 (by decide) rfl ?_
    refine ez_iload (i := 4) dX10_secondStep_23 rfl ?_
    refine ez_iconst (v := (-1)) dX10_secondStep_25 (by decide) ?_
    refine ez_icmp_eq (tgt := 59) dX10_secondStep_26 (by decide) (fun c4 => ?_) (fun c4 => ?_)
    · skip
      refine ez_iinc (v := (nI (b + 1 + k + 1))) (l' := [(3, .int ((nI (b + 1 + k + 1)))), (4, .int (zon (zfb (pt T v (zup T.x (7 + b) (nI t)) (b + 1 + k)) 6 0))), (0, .ref 0), (1, .int (nI b)), (2, .int v)]) dX10_secondStep_59 rfl (nI_1 _) (by decide) rfl ?_
      refine ez_goto (tgt := 4) dX10_secondStep_62 (by decide) ?_
      refine ez_sub (l' := [(3, .int ((nI (b + 1 + k + 1)))), (0, .ref 0), (1, .int (nI b)), (2, .int v)]) [0, 2, 3, 4] rfl ?_
      exact ez_eq (l2 := [(3, .int (nI (b + 1 + (k + 1)))), (0, .ref 0), (1, .int (nI b)), (2, .int v)]) rfl rfl rfl rfl (ih (I2) ⟨hK3, (zfb_step (k := b + 1 + k) hex (by omega) (by unfold h2; rw [(zon_m (fun t ht => by have := pt_lt 6 0 t ht; omega)).mp c4]; rfl))⟩)
    · skip
      obtain ⟨u, hu⟩ : ∃ z0, zfb (pt T v (zup T.x (7 + b) (nI t)) (b + 1 + k)) 6 0 = some z0 := by cases e : zfb (pt T v (zup T.x (7 + b) (nI t)) (b + 1 + k)) 6 0 with | none => exact absurd ((zon_m (fun t ht => by have := pt_lt 6 0 t ht; omega)).mpr e) c4 | some z0 => exact ⟨z0, rfl⟩
      have hu6 := pt_lt 6 0 u hu
      refine ez_eq (l2 := [(4, .int (nI u)), (3, .int (nI (b + 1 + k))), (0, .ref 0), (1, .int (nI b)), (2, .int v)]) rfl (by rw [hu]; rfl) rfl rfl ?_
      refine ez_aload_n (i := 0) dX10_secondStep_29 rfl rfl ?_
      refine ez_getR dX10_secondStep_30 flX10_19 (hF.lt (by decide)) (hF.kc (by decide) rfl) (hF.pt 3 rfl) ?_
      refine ez_bipush (v := 10) dX10_secondStep_33 (by decide) ?_
      refine ez_iload_n (i := 1) dX10_secondStep_35 rfl rfl ?_
      refine ez_imul dX10_secondStep_36 ?_
      refine ez_topE (y := nI (10 * b)) (nI_mul _ _) ?_
      refine ez_aload_n (i := 0) dX10_secondStep_37 rfl rfl ?_
      refine ez_getR dX10_secondStep_38 flX10_37 (hF.lt (by decide)) (hF.kc (by decide) rfl) (hF.pt 25 rfl) ?_
      refine ez_getR dX10_secondStep_41 flX10_168 (hF.lt (by decide)) (hF.kc (by decide) rfl) (hF.pt 23 rfl) ?_
      refine ez_iload_n (i := 1) dX10_secondStep_44 rfl rfl ?_
      refine ez_iaN (k := b) dX10_secondStep_45 (hF.lt (by decide)) (hF.ka (by decide) rfl) (by omega) (by decide) ?_
      refine ez_topE (y := nI t) (((hK3.gs _ rfl).t _ (by omega)).trans zup_at) ?_
      refine ez_iadd dX10_secondStep_46 ?_
      refine ez_topE (y := nI ((10 * b) + t)) (nI_add _ _) ?_
      refine ez_bipush (v := 10) dX10_secondStep_47 (by decide) ?_
      refine ez_iload_n (i := 3) dX10_secondStep_49 rfl rfl ?_
      refine ez_imul dX10_secondStep_50 ?_
      refine ez_topE (y := nI (10 * (b + 1 + k))) (nI_mul _ _) ?_
      refine ez_iload (i := 4) dX10_secondStep_51 rfl ?_
      refine ez_iadd dX10_secondStep_53 ?_
      refine ez_topE (y := nI ((10 * (b + 1 + k)) + u)) (nI_add _ _) ?_
      refine ez_callV (M1 := mX4_tell_) (rest := []) dX10_secondStep_54 mlX10_204 mvX4_tell_ rfl (hF.lt (by decide)) (hF.kc (by decide) rfl) (Nat.le_of_ble_eq_true rfl) rfl (y_X4_tell_ (I := I2) (L := L) (d + 28) hF (nI ((10 * b) + t)) (nI ((10 * (b + 1 + k)) + u))) z_tok ?_
      rintro _ _ ⟨rfl, I5, L6, rfl, hr7, ho8⟩
      show ez_P _ _ _ _ _ _ 57 [(4, .int (nI u)), (3, .int (nI (b + 1 + k))), (0, .ref 0), (1, .int (nI b)), (2, .int v)] [] (n, sl, kd, I5, L6, Rf) _
      have hK9 : zK n kd I0 L0 R0 g I5 L6 Rf (T.w_rw [(nI ((10 * b) + t)).toInt64, (nI ((10 * (b + 1 + k)) + u)).toInt64]) (some (zup T.x (7 + b) (nI t))) Bf w := by exact hK3.tell hr7 ho8
      refine ez_iconst (v := 1) dX10_secondStep_57 (by decide) ?_
      refine ez_iret dX10_secondStep_58 rfl (by decide) ?_
      rw [show (zfb (h2 T v (zup T.x (7 + b) (nI t))) (T.c - (b + 1)) (b + 1)).map (fun a => [(nI (10 * b + t)).toInt64, (nI a).toInt64]) = some [(nI (10 * b + t)).toInt64, (nI (10 * (b + 1 + k) + u)).toInt64] from by rw [zfb_hit (k := b + 1 + k) hex (by omega) (x := 10 * (b + 1 + k) + u) (by unfold h2; rw [hu]; rfl)]; rfl]
      exact ⟨rfl, _, _, _, rfl, hK9⟩
  · rintro Ia ⟨hKl, hex⟩
    have hKl : zK n kd I0 L0 R0 g Ia L Rf T (some (zup T.x (7 + b) (nI t))) Bf w := hKl
    have hex : zfb (h2 T v (zup T.x (7 + b) (nI t))) (T.c - (b + 1 + (T.c - (b + 1)))) (b + 1 + (T.c - (b + 1))) = zfb (h2 T v (zup T.x (7 + b) (nI t))) (T.c - (b + 1)) (b + 1) := hex
    show ez_P _ _ _ _ _ _ 4 [(3, .int (nI (b + 1 + (T.c - (b + 1))))), (0, .ref 0), (1, .int (nI b)), (2, .int v)] [] (n, sl, kd, Ia, L, Rf) _
    refine ez_iload_n (i := 3) dX10_secondStep_4 rfl rfl ?_
    refine ez_aload_n (i := 0) dX10_secondStep_5 rfl rfl ?_
    refine ez_getR dX10_secondStep_6 flX10_37 (hF.lt (by decide)) (hF.kc (by decide) rfl) (hF.pt 25 rfl) ?_
    refine ez_getI dX10_secondStep_9 flX10_126 (hF.lt (by decide)) (hF.kc (by decide) rfl) ?_
    refine ez_topE (y := nI T.c) (hKl.gs _ rfl).cr ?_
    refine ez_icmp_ge (tgt := 65) dX10_secondStep_12 (by decide) (fun c10 => ?_) (fun c10 => absurd (nI_le (by omega) (by omega)) c10)
    refine ez_iconst (v := 0) dX10_secondStep_65 (by decide) ?_
    refine ez_iret dX10_secondStep_66 rfl (by decide) ?_
    rw [show (zfb (h2 T v (zup T.x (7 + b) (nI t))) (T.c - (b + 1)) (b + 1)).map (fun a => [(nI (10 * b + t)).toInt64, (nI a).toInt64]) = none from by rw [zfb_end hex (by omega)]; rfl]
    exact ⟨rfl, _, rfl, hKl⟩
/-- two tellings: by the first one's thought; by the first brother -/
def k2 (T : zT) (v : Int32) (b t : Nat) : Option (Nat × Nat) := if nI t = T.x (7 + b) then none else (zfb (h2 T v (zup T.x (7 + b) (nI t))) (T.c - (b + 1)) (b + 1)).map (fun a => (10 * b + t, a))
def l2 (T : zT) (v : Int32) (b : Nat) : Option (Nat × Nat) := zfb (k2 T v b) 6 0
theorem k_tws {n : Nat} {sl : Nat × Nat} {kd : Nat → Nat × Nat} {I : Nat → Nat → Int32} {L : Nat → Nat → Int64} {Rf : Nat → Nat → Option Nat} (d : Nat) {T : zT} {H : Nat} {I0 g : Nat → Nat → Int32} {L0 : Nat → Nat → Int64} {R0 : Nat → Nat → Option Nat} {Bf : Option (Nat → Int32)} {w : Bool} (hK : zK n kd I0 L0 R0 g I L Rf T (some T.x) Bf w) (hO : zOk H T) (hH : H ≤ 1000000000) (hg : zlt T g) (v : Int32) : zq mX10_twoSteps (d + 35) [.ref 0, .int v] (n, sl, kd, I, L, Rf) (zpT2 n sl kd I0 L0 R0 g L Rf T T.x Bf w ((zfb (l2 T v) T.c 0).map (fun p => [(nI p.1).toInt64, (nI p.2).toInt64]))) := by
  have hC := hK.C; have hF := hC.F; have hc7 := hO.c
  intro f B
  refine ez_meth pn_X.2.2.2.2.2.2.2.2.2.2.1 (Nat.le_of_ble_eq_true rfl) ?_
  show ez_P _ _ _ _ _ _ 0 [(0, .ref 0), (1, .int v)] [] (n, sl, kd, I, L, Rf) _
  refine ez_iconst (v := 0) dX10_twoSteps_0 (by decide) ?_
  refine ez_istore_n (l' := [(2, .int 0), (0, .ref 0), (1, .int v)]) dX10_twoSteps_1 rfl (by decide) rfl ?_
  refine ez_eq (l2 := [(2, .int (nI 0)), (0, .ref 0), (1, .int v)]) (σ2 := (n, sl, kd, I, L, Rf)) rfl rfl rfl rfl ?_
  refine ez_for T.c (fun k (a : (Nat → Nat → Int32)) => ([(2, .int (nI k)), (0, .ref 0), (1, .int v)], (n, sl, kd, a, L, Rf))) (fun k a => zK n kd I0 L0 R0 g a L Rf T (some T.x) Bf w ∧ zfb (l2 T v) (T.c - k) k = zfb (l2 T v) T.c 0) ?_ ?_ T.c 0 (I) (by omega) ⟨hK, rfl⟩
  · rintro k Ia hk ⟨hKl, hex⟩ ih
    have hKl : zK n kd I0 L0 R0 g Ia L Rf T (some T.x) Bf w := hKl
    have hex : zfb (l2 T v) (T.c - k) k = zfb (l2 T v) T.c 0 := hex
    show ez_P _ _ _ _ _ _ 2 [(2, .int (nI k)), (0, .ref 0), (1, .int v)] [] (n, sl, kd, Ia, L, Rf) _
    refine ez_iload_n (i := 2) dX10_twoSteps_2 rfl rfl ?_
    refine ez_aload_n (i := 0) dX10_twoSteps_3 rfl rfl ?_
    refine ez_getR dX10_twoSteps_4 flX10_37 (hF.lt (by decide)) (hF.kc (by decide) rfl) (hF.pt 25 rfl) ?_
    refine ez_getI dX10_twoSteps_7 flX10_126 (hF.lt (by decide)) (hF.kc (by decide) rfl) ?_
    refine ez_topE (y := nI T.c) (hKl.gs _ rfl).cr ?_
    refine ez_icmp_ge (tgt := 85) dX10_twoSteps_10 (by decide) (fun c1 => absurd c1 (nI_ge hk (by omega))) (fun c1 => ?_)
    refine ez_iconst (v := 0) dX10_twoSteps_13 (by decide) ?_
    refine ez_istore_n (l' := [(3, .int 0), (2, .int (nI k)), (0, .ref 0), (1, .int v)]) dX10_twoSteps_14 rfl (by decide) rfl ?_
    have hK2 : zK n kd I0 L0 R0 g Ia L Rf T (some (zup T.x (7 + k) (T.x (7 + k)))) Bf w := by rw [show zup T.x (7 + k) (T.x (7 + k)) = T.x from zup_id]; exact hKl
    refine ez_eq (l2 := [(3, .int (nI 0)), (2, .int (nI k)), (0, .ref 0), (1, .int v)]) (σ2 := (n, sl, kd, Ia, L, Rf)) rfl rfl rfl rfl ?_
    refine ez_for 6 (fun j (a : (Nat → Nat → Int32) × Int32) => ([(3, .int (nI j)), (2, .int (nI k)), (0, .ref 0), (1, .int v)], (n, sl, kd, a.1, L, Rf))) (fun j a => zK n kd I0 L0 R0 g a.1 L Rf T (some (zup T.x (7 + k) a.2)) Bf w ∧ zfb (k2 T v k) (6 - j) j = l2 T v k) ?_ ?_ 6 0 (Ia, T.x (7 + k)) (by omega) ⟨hK2, rfl⟩
    · rintro j ⟨Ia2, pl⟩ hk2 ⟨hKl2, hex2⟩ ih2
      have hKl2 : zK n kd I0 L0 R0 g Ia2 L Rf T (some (zup T.x (7 + k) pl)) Bf w := hKl2
      have hex2 : zfb (k2 T v k) (6 - j) j = l2 T v k := hex2
      show ez_P _ _ _ _ _ _ 15 [(3, .int (nI j)), (2, .int (nI k)), (0, .ref 0), (1, .int v)] [] (n, sl, kd, Ia2, L, Rf) _
      refine ez_iload_n (i := 3) dX10_twoSteps_15 rfl rfl ?_
      refine ez_bipush (v := 6) dX10_twoSteps_16 (by decide) ?_
      refine ez_icmp_ge (tgt := 61) dX10_twoSteps_18 (by decide) (fun c3 => absurd c3 (nI_ge (b := 6) hk2 (by decide))) (fun c3 => ?_)
      refine ez_aload_n (i := 0) dX10_twoSteps_21 rfl rfl ?_
      refine ez_getR dX10_twoSteps_22 flX10_37 (hF.lt (by decide)) (hF.kc (by decide) rfl) (hF.pt 25 rfl) ?_
      refine ez_getR dX10_twoSteps_25 flX10_168 (hF.lt (by decide)) (hF.kc (by decide) rfl) (hF.pt 23 rfl) ?_
      refine ez_iload_n (i := 2) dX10_twoSteps_28 rfl rfl ?_
      refine ez_iload_n (i := 3) dX10_twoSteps_29 rfl rfl ?_
      refine ez_isN (k := k) dX10_twoSteps_30 (hF.lt (by decide)) (hF.lx (by decide)) (hF.ka (by decide) rfl) (by omega) (by decide) ?_
      refine ez_nmI (fun I4 hI4 => ?_)
      have hK5 : zK n kd I0 L0 R0 g I4 L Rf T (some (zup (zup T.x (7 + k) pl) (7 + k) (nI j))) Bf w := by rw [hI4]; exact hKl2.tho hc7 (by omega)
      have hK6 : zK n kd I0 L0 R0 g I4 L Rf T (some (zup T.x (7 + k) (nI j))) Bf w := by rw [show zup T.x (7 + k) (nI j) = zup (zup T.x (7 + k) pl) (7 + k) (nI j) from zup_zup.symm]; exact hK5
      refine ez_iload_n (i := 3) dX10_twoSteps_31 rfl rfl ?_
      refine ez_aload_n (i := 0) dX10_twoSteps_32 rfl rfl ?_
      refine ez_getR dX10_twoSteps_33 flX10_33 (hF.lt (by decide)) (hF.kc (by decide) rfl) (hF.pt 21 rfl) ?_
      refine ez_getR dX10_twoSteps_36 flX10_168 (hF.lt (by decide)) (hF.kc (by decide) rfl) (hF.pt 19 rfl) ?_
      refine ez_iload_n (i := 2) dX10_twoSteps_39 rfl rfl ?_
      refine ez_iaN (k := k) dX10_twoSteps_40 (hF.lt (by decide)) (hF.ka (by decide) rfl) (by omega) (by decide) ?_
      refine ez_topE (y := T.x (7 + k)) (hK6.C.sh.t _ (by omega)) ?_
      refine ez_icmp_eq (tgt := 55) dX10_twoSteps_41 (by decide) (fun c7 => ?_) (fun c7 => ?_)
      · skip
        refine ez_iinc (v := (nI (j + 1))) (l' := [(3, .int ((nI (j + 1)))), (2, .int (nI k)), (0, .ref 0), (1, .int v)]) dX10_twoSteps_55 rfl (nI_1 _) (by decide) rfl ?_
        refine ez_goto (tgt := 15) dX10_twoSteps_58 (by decide) ?_
        exact ez_eq (l2 := [(3, .int (nI (j + 1))), (2, .int (nI k)), (0, .ref 0), (1, .int v)]) rfl rfl rfl rfl (ih2 (I4, (nI j)) ⟨hK6, (zfb_step hex2 hk2 (by unfold k2; exact if_pos c7))⟩)
      · skip
        refine ez_aload_n (i := 0) dX10_twoSteps_44 rfl rfl ?_
        refine ez_iload_n (i := 2) dX10_twoSteps_45 rfl rfl ?_
        refine ez_iload_n (i := 1) dX10_twoSteps_46 rfl rfl ?_
        refine ez_callV (M1 := mX10_secondStep) (rest := []) dX10_twoSteps_47 mlX10_320 mvX10_secondStep rfl (hF.lt (by decide)) (hF.kc (by decide) rfl) (Nat.le_of_ble_eq_true rfl) rfl (k_two (T := T) (I := I4) (L := L) (d + 4) (b := k) (t := j) hk hk2 hK6 hO hH hg v) zpT2_ok ?_
        cases e2 : zfb (h2 T v (zup T.x (7 + k) (nI j))) (T.c - (k + 1)) (k + 1) with
        | some a2 =>
          rintro _ _ ⟨rfl, I8, L10, G1, rfl, hK9⟩
          show ez_P _ _ _ _ _ _ 50 [(3, .int (nI j)), (2, .int (nI k)), (0, .ref 0), (1, .int v)] (.int 1 :: []) (n, sl, kd, I8, L10, Rf) _
          have hK9 : zK n kd I0 L0 R0 g I8 L10 Rf (T.w_rw [(nI (10 * k + j)).toInt64, (nI a2).toInt64]) G1 Bf w := hK9
          refine ez_if_eq (tgt := 55) dX10_twoSteps_50 (by decide) (fun c11 => absurd c11 (by decide)) (fun c11 => ?_)
          refine ez_iconst (v := 1) dX10_twoSteps_53 (by decide) ?_
          refine ez_iret dX10_twoSteps_54 rfl (by decide) ?_
          rw [show (zfb (l2 T v) T.c 0).map (fun p => [(nI p.1).toInt64, (nI p.2).toInt64]) = some [(nI (10 * k + j)).toInt64, (nI a2).toInt64] from by rw [zfb_hit hex hk (x := (10 * k + j, a2)) (zfb_hit hex2 hk2 (by unfold k2; rw [if_neg c7, e2]; rfl))]; rfl]
          exact ⟨rfl, _, _, _, rfl, hK9⟩
        | none =>
          rintro _ _ ⟨rfl, I12, rfl, hK13⟩
          show ez_P _ _ _ _ _ _ 50 [(3, .int (nI j)), (2, .int (nI k)), (0, .ref 0), (1, .int v)] (.int 0 :: []) (n, sl, kd, I12, L, Rf) _
          have hK13 : zK n kd I0 L0 R0 g I12 L Rf T (some (zup T.x (7 + k) (nI j))) Bf w := hK13
          refine ez_if_eq (tgt := 55) dX10_twoSteps_50 (by decide) (fun c14 => ?_) (fun c14 => absurd (by decide) c14)
          refine ez_iinc (v := (nI (j + 1))) (l' := [(3, .int ((nI (j + 1)))), (2, .int (nI k)), (0, .ref 0), (1, .int v)]) dX10_twoSteps_55 rfl (nI_1 _) (by decide) rfl ?_
          refine ez_goto (tgt := 15) dX10_twoSteps_58 (by decide) ?_
          exact ez_eq (l2 := [(3, .int (nI (j + 1))), (2, .int (nI k)), (0, .ref 0), (1, .int v)]) rfl rfl rfl rfl (ih2 (I12, (nI j)) ⟨hK13, (zfb_step hex2 hk2 (by unfold k2; rw [if_neg c7, e2]; rfl))⟩)
    · rintro ⟨Ia2, pl⟩ ⟨hKl2, hex2⟩
      have hKl2 : zK n kd I0 L0 R0 g Ia2 L Rf T (some (zup T.x (7 + k) pl)) Bf w := hKl2
      have hex2 : zfb (k2 T v k) (6 - 6) 6 = l2 T v k := hex2
      show ez_P _ _ _ _ _ _ 15 [(3, .int (nI 6)), (2, .int (nI k)), (0, .ref 0), (1, .int v)] [] (n, sl, kd, Ia2, L, Rf) _
      refine ez_iload_n (i := 3) dX10_twoSteps_15 rfl rfl ?_
      refine ez_bipush (v := 6) dX10_twoSteps_16 (by decide) ?_
      refine ez_icmp_ge (tgt := 61) dX10_twoSteps_18 (by decide) (fun c15 => ?_) (fun c15 => absurd (by decide) c15)
      refine ez_aload_n (i := 0) dX10_twoSteps_61 rfl rfl ?_
      refine ez_getR dX10_twoSteps_62 flX10_37 (hF.lt (by decide)) (hF.kc (by decide) rfl) (hF.pt 25 rfl) ?_
      refine ez_getR dX10_twoSteps_65 flX10_168 (hF.lt (by decide)) (hF.kc (by decide) rfl) (hF.pt 23 rfl) ?_
      refine ez_iload_n (i := 2) dX10_twoSteps_68 rfl rfl ?_
      refine ez_aload_n (i := 0) dX10_twoSteps_69 rfl rfl ?_
      refine ez_getR dX10_twoSteps_70 flX10_33 (hF.lt (by decide)) (hF.kc (by decide) rfl) (hF.pt 21 rfl) ?_
      refine ez_getR dX10_twoSteps_73 flX10_168 (hF.lt (by decide)) (hF.kc (by decide) rfl) (hF.pt 19 rfl) ?_
      refine ez_iload_n (i := 2) dX10_twoSteps_76 rfl rfl ?_
      refine ez_iaN (k := k) dX10_twoSteps_77 (hF.lt (by decide)) (hF.ka (by decide) rfl) (by omega) (by decide) ?_
      refine ez_topE (y := T.x (7 + k)) (hKl2.C.sh.t _ (by omega)) ?_
      refine ez_isN (k := k) dX10_twoSteps_78 (hF.lt (by decide)) (hF.lx (by decide)) (hF.ka (by decide) rfl) (by omega) (by decide) ?_
      refine ez_nmI (fun I16 hI16 => ?_)
      have hK17 : zK n kd I0 L0 R0 g I16 L Rf T (some (zup (zup T.x (7 + k) pl) (7 + k) (T.x (7 + k)))) Bf w := by rw [hI16]; exact hKl2.tho hc7 (by omega)
      have hK18 : zK n kd I0 L0 R0 g I16 L Rf T (some T.x) Bf w := by rw [show T.x = zup (zup T.x (7 + k) pl) (7 + k) (T.x (7 + k)) from by rw [zup_zup, zup_id]]; exact hK17
      refine ez_iinc (v := (nI (k + 1))) (l' := [(2, .int ((nI (k + 1)))), (3, .int (nI 6)), (0, .ref 0), (1, .int v)]) dX10_twoSteps_79 rfl (nI_1 _) (by decide) rfl ?_
      refine ez_goto (tgt := 2) dX10_twoSteps_82 (by decide) ?_
      refine ez_sub (l' := [(2, .int ((nI (k + 1)))), (0, .ref 0), (1, .int v)]) [0, 2, 3] rfl ?_
      exact ez_eq (l2 := [(2, .int (nI (k + 1))), (0, .ref 0), (1, .int v)]) rfl rfl rfl rfl (ih (I16) ⟨hK18, (zfb_step hex hk (zfb_end hex2 (Nat.le_refl _)))⟩)
  · rintro Ia ⟨hKl, hex⟩
    have hKl : zK n kd I0 L0 R0 g Ia L Rf T (some T.x) Bf w := hKl
    have hex : zfb (l2 T v) (T.c - T.c) T.c = zfb (l2 T v) T.c 0 := hex
    show ez_P _ _ _ _ _ _ 2 [(2, .int (nI T.c)), (0, .ref 0), (1, .int v)] [] (n, sl, kd, Ia, L, Rf) _
    refine ez_iload_n (i := 2) dX10_twoSteps_2 rfl rfl ?_
    refine ez_aload_n (i := 0) dX10_twoSteps_3 rfl rfl ?_
    refine ez_getR dX10_twoSteps_4 flX10_37 (hF.lt (by decide)) (hF.kc (by decide) rfl) (hF.pt 25 rfl) ?_
    refine ez_getI dX10_twoSteps_7 flX10_126 (hF.lt (by decide)) (hF.kc (by decide) rfl) ?_
    refine ez_topE (y := nI T.c) (hKl.gs _ rfl).cr ?_
    refine ez_icmp_ge (tgt := 85) dX10_twoSteps_10 (by decide) (fun c19 => ?_) (fun c19 => absurd (nI_le (Nat.le_refl _) (by omega)) c19)
    refine ez_iconst (v := 0) dX10_twoSteps_85 (by decide) ?_
    refine ez_iret dX10_twoSteps_86 rfl (by decide) ?_
    rw [show (zfb (l2 T v) T.c 0).map (fun p => [(nI p.1).toInt64, (nI p.2).toInt64]) = none from by rw [zfb_end hex (Nat.le_refl _)]; rfl]
    exact ⟨rfl, _, rfl, hKl⟩
