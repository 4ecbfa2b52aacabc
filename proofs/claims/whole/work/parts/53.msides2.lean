/-! the reference: swaps, line, apart, moment -/
def zsp (T : zT) (p q : Nat) : Int32 := zpl T (zup (zup T.x (14 + p) (T.x (14 + q))) (14 + q) (T.x (14 + p)))
theorem z_d10 : ∀ p, p < 7 → ∀ q, q < 7 → nI (10 * p + q) / 10 = nI p ∧ nI (10 * p + q) - nI (10 * p + q) / 10 * 10 = nI q := by decide +kernel
theorem y_X11_pullSwapped {n : Nat} {sl : Nat × Nat} {kd : Nat → Nat × Nat} {I : Nat → Nat → Int32} {L : Nat → Nat → Int64} {Rf : Nat → Nat → Option Nat} (d : Nat) {T T1 : zT} {H : Nat} {I0 g : Nat → Nat → Int32} {L0 : Nat → Nat → Int64} {x : Nat → Int32} {o : Int32} (hQ : zQ n kd I0 L0 Rf g I L T1 x o) (hT : zsm T T1) (hO : zOk H T) (hH : H ≤ 1000000000) {p0 q0 : Nat} (hp : p0 < T.c) (hq : q0 < T.c)  : zq mX11_pullSwapped (d + 350) [.ref 112, .int (nI p0), .int (nI q0)] (n, sl, kd, I, L, Rf) (zpQ n sl kd I0 L0 Rf g L T1 (some (.int (zsp T p0 q0)))) := by
  have hF := hQ.M.F; have hc7 := hO.c
  intro f B
  refine ez_meth pn_X.2.2.2.2.2.2.2.2.2.2.2 (Nat.le_of_ble_eq_true rfl) ?_
  show ez_P _ _ _ _ _ _ 0 [(0, .ref 112), (1, .int (nI p0)), (2, .int (nI q0))] [] (n, sl, kd, I, L, Rf) _
  refine ez_aload_n (i := 0) dX11_pullSwapped_0 rfl rfl ?_
  refine ez_getR dX11_pullSwapped_1 flX11_9 (hF.lt (by decide)) (hF.kc (by decide) rfl) (hF.pt 107 rfl) ?_
  refine ez_aload_n (i := 0) dX11_pullSwapped_4 rfl rfl ?_
  refine ez_getR dX11_pullSwapped_5 flX11_49 (hF.lt (by decide)) (hF.kc (by decide) rfl) (hF.pt 117 rfl) ?_
  refine ez_iconst (v := 0) dX11_pullSwapped_8 (by decide) ?_
  refine ez_callS (M1 := mX11_lay) (rest := []) dX11_pullSwapped_9 mlX11_231 msX11_lay rfl (Nat.le_of_ble_eq_true rfl) rfl (y_lay0 (I := I) (L := L) (d + 349) hF) (eb_vok rfl) ?_
  rintro _ _ ⟨rfl, rfl⟩
  refine ez_nmI (fun I1 hI1 => ?_)
  show ez_P _ _ _ _ _ _ 12 [(0, .ref 112), (1, .int (nI p0)), (2, .int (nI q0))] [] (n, sl, kd, I1, L, Rf) _
  have hQ2 : zQ n kd I0 L0 Rf g I1 L T1 T.x o := by rw [hI1]; exact hQ.layT hT
  refine ez_aload_n (i := 0) dX11_pullSwapped_12 rfl rfl ?_
  refine ez_getR dX11_pullSwapped_13 flX11_49 (hF.lt (by decide)) (hF.kc (by decide) rfl) (hF.pt 117 rfl) ?_
  refine ez_bipush (v := 14) dX11_pullSwapped_16 (by decide) ?_
  refine ez_iload_n (i := 1) dX11_pullSwapped_18 rfl rfl ?_
  refine ez_iadd dX11_pullSwapped_19 ?_
  refine ez_topE (y := nI (14 + p0)) (nI_add _ _) ?_
  refine ez_aload_n (i := 0) dX11_pullSwapped_20 rfl rfl ?_
  refine ez_getR dX11_pullSwapped_21 flX11_9 (hF.lt (by decide)) (hF.kc (by decide) rfl) (hF.pt 107 rfl) ?_
  refine ez_bipush (v := 14) dX11_pullSwapped_24 (by decide) ?_
  refine ez_iload_n (i := 2) dX11_pullSwapped_26 rfl rfl ?_
  refine ez_iadd dX11_pullSwapped_27 ?_
  refine ez_topE (y := nI (14 + q0)) (nI_add _ _) ?_
  refine ez_iaN (k := (14 + q0)) dX11_pullSwapped_28 (hF.lt (by decide)) (hF.ka (by decide) rfl) (by omega) (by decide) ?_
  refine ez_topE (y := T.x (14 + q0)) ((hQ2.M.x _ (by omega)).trans (congrFun hT.2.2.2.2.2 _).symm) ?_
  refine ez_isN (k := (14 + p0)) dX11_pullSwapped_29 (hF.lt (by decide)) (hF.lx (by decide)) (hF.ka (by decide) rfl) (by omega) (by decide) ?_
  refine ez_nmI (fun I3 hI3 => ?_)
  have hQ4 : zQ n kd I0 L0 Rf g I3 L T1 (zup T.x (14 + p0) (T.x (14 + q0))) o := by rw [hI3]; exact hQ2.set
  refine ez_aload_n (i := 0) dX11_pullSwapped_30 rfl rfl ?_
  refine ez_getR dX11_pullSwapped_31 flX11_49 (hF.lt (by decide)) (hF.kc (by decide) rfl) (hF.pt 117 rfl) ?_
  refine ez_bipush (v := 14) dX11_pullSwapped_34 (by decide) ?_
  refine ez_iload_n (i := 2) dX11_pullSwapped_36 rfl rfl ?_
  refine ez_iadd dX11_pullSwapped_37 ?_
  refine ez_topE (y := nI (14 + q0)) (nI_add _ _) ?_
  refine ez_aload_n (i := 0) dX11_pullSwapped_38 rfl rfl ?_
  refine ez_getR dX11_pullSwapped_39 flX11_9 (hF.lt (by decide)) (hF.kc (by decide) rfl) (hF.pt 107 rfl) ?_
  refine ez_bipush (v := 14) dX11_pullSwapped_42 (by decide) ?_
  refine ez_iload_n (i := 1) dX11_pullSwapped_44 rfl rfl ?_
  refine ez_iadd dX11_pullSwapped_45 ?_
  refine ez_topE (y := nI (14 + p0)) (nI_add _ _) ?_
  refine ez_iaN (k := (14 + p0)) dX11_pullSwapped_46 (hF.lt (by decide)) (hF.ka (by decide) rfl) (by omega) (by decide) ?_
  refine ez_topE (y := T.x (14 + p0)) ((hQ4.M.x _ (by omega)).trans (congrFun hT.2.2.2.2.2 _).symm) ?_
  refine ez_isN (k := (14 + q0)) dX11_pullSwapped_47 (hF.lt (by decide)) (hF.lx (by decide)) (hF.ka (by decide) rfl) (by omega) (by decide) ?_
  refine ez_nmI (fun I5 hI5 => ?_)
  have hQ6 : zQ n kd I0 L0 Rf g I5 L T1 (zup (zup T.x (14 + p0) (T.x (14 + q0))) (14 + q0) (T.x (14 + p0))) o := by rw [hI5]; exact hQ4.set
  refine ez_aload_n (i := 0) dX11_pullSwapped_48 rfl rfl ?_
  refine ez_aload_n (i := 0) dX11_pullSwapped_49 rfl rfl ?_
  refine ez_getR dX11_pullSwapped_50 flX11_49 (hF.lt (by decide)) (hF.kc (by decide) rfl) (hF.pt 117 rfl) ?_
  refine ez_callV (M1 := mX11_pullOf) (rest := []) dX11_pullSwapped_53 mlX11_277 mvX11_pullOf rfl (hF.lt (by decide)) (hF.kc (by decide) rfl) (Nat.le_of_ble_eq_true rfl) rfl (y_pl (I := I5) (L := L) (d + 40) (hQ6.W (T := T) hT) hc7 (Or.inr rfl) hQ6.x ((hO.x.pla hO.c (b := p0) (by omega) (hO.x.p q0 hq)).pla hO.c (b := q0) (by omega) (hO.x.p p0 hp)) (by omega) hO.wm) eb_rok ?_
  rintro _ _ ⟨rfl, rfl⟩
  show ez_P _ _ _ _ _ _ 56 [(0, .ref 112), (1, .int (nI p0)), (2, .int (nI q0))] (.int (zpl T (zup (zup T.x (14 + p0) (T.x (14 + q0))) (14 + q0) (T.x (14 + p0)))) :: []) _ _
  refine ez_iret dX11_pullSwapped_56 rfl rfl ?_
  exact ⟨rfl, _, _, _, rfl, hQ6⟩
def b_swi (T : zT) (p : Nat) (a0 : Int32 × Int32) (k : Nat) (a : Int32 × Int32) : Int32 × Int32 := if z_ab (zsp T p (p + 1 + k)) < a.2 then (nI (10 * p + (p + 1 + k)), z_ab (zsp T p (p + 1 + k))) else a
def a_swi (T : zT) (p : Nat) (a0 : Int32 × Int32) : Nat → Int32 × Int32
  | 0 => a0
  | k + 1 => b_swi T p a0 k (a_swi T p a0 k)
def b_swo (T : zT) (k : Nat) (a : Int32 × Int32) : Int32 × Int32 := a_swi T k a (T.c - (k + 1))
def a_swo (T : zT) : Nat → Int32 × Int32
  | 0 => (-1, 1000000)
  | k + 1 => b_swo T k (a_swo T k)
def s_swaps (T : zT) : Int32 × zT := if (a_swo T T.c).1 = -1 then (-2, T) else ((a_swo T T.c).1, T.w_rw [(100 + zsp T ((a_swo T T.c).1 / 10).toNatClampNeg ((a_swo T T.c).1 - (a_swo T T.c).1 / 10 * 10).toNatClampNeg).toInt64])
theorem y_X11_swaps {n : Nat} {sl : Nat × Nat} {kd : Nat → Nat × Nat} {I : Nat → Nat → Int32} {L : Nat → Nat → Int64} {Rf : Nat → Nat → Option Nat} (d : Nat) {T : zT} {H : Nat} (hM : zM n kd I L Rf T) (hO : zOk H T) (hH : H ≤ 1000000000)  : zq mX11_swaps (d + 400) [.ref 112] (n, sl, kd, I, L, Rf) (zpM n sl kd I L Rf (some (.int (s_swaps T).1)) (s_swaps T).2) := by
  have hF := hM.F; have hc7 := hO.c
  intro f B
  refine ez_meth pn_X.2.2.2.2.2.2.2.2.2.2.2 (Nat.le_of_ble_eq_true rfl) ?_
  show ez_P _ _ _ _ _ _ 0 [(0, .ref 112)] [] (n, sl, kd, I, L, Rf) _
  refine ez_aload_n (i := 0) dX11_swaps_0 rfl rfl ?_
  refine ez_iconst (v := 0) dX11_swaps_1 (by decide) ?_
  refine ez_pI dX11_swaps_2 plX11_89 (hF.lt (by decide)) (hF.lx (by decide)) (hF.kc (by decide) rfl) rfl rfl ?_
  refine ez_nmI (fun I1 hI1 => ?_)
  have hQ2 : zQ n kd I L Rf I I1 L T (I 124) (I 112 25) := by rw [hI1]; exact zQ.start hM
  refine ez_iconst (v := (-1)) dX11_swaps_5 (by decide) ?_
  refine ez_istore_n (l' := [(1, .int ((-1))), (0, .ref 112)]) dX11_swaps_6 rfl (by decide) rfl ?_
  refine ez_ldcw (v := 1000000) dX11_swaps_7 kcX11_284 ?_
  refine ez_istore_n (l' := [(2, .int 1000000), (1, .int ((-1))), (0, .ref 112)]) dX11_swaps_10 rfl (by decide) rfl ?_
  refine ez_iconst (v := 0) dX11_swaps_11 (by decide) ?_
  refine ez_istore_n (l' := [(3, .int 0), (2, .int 1000000), (1, .int ((-1))), (0, .ref 112)]) dX11_swaps_12 rfl (by decide) rfl ?_
  refine ez_eq (l2 := [(3, .int (nI 0)), (2, .int 1000000), (1, .int ((-1))), (0, .ref 112)]) (σ2 := (n, sl, kd, I1, L, Rf)) rfl rfl rfl rfl ?_
  refine ez_for T.c (fun k (a : (Nat → Nat → Int32) × (Nat → Nat → Int64) × (Nat → Int32) × Int32 × Int32 × Int32) => ([(3, .int (nI k)), (2, .int a.2.2.2.2.2), (1, .int a.2.2.2.2.1), (0, .ref 112)], (n, sl, kd, a.1, a.2.1, Rf))) (fun k a => zQ n kd I L Rf I a.1 a.2.1 T a.2.2.1 a.2.2.2.1 ∧ (a.2.2.2.2.1, a.2.2.2.2.2) = a_swo T k ∧ (a.2.2.2.2.1 = -1 ∨ ∃ p q, p < T.c ∧ q < T.c ∧ a.2.2.2.2.1 = nI (10 * p + q))) ?_ ?_ T.c 0 (I1, L, I 124, I 112 25, (-1), 1000000) (by omega) ⟨hQ2, rfl, (Or.inl rfl)⟩
  · rintro k ⟨Ia, La, xa, oa, sb, sl0⟩ hk ⟨hQ0, hac, hex⟩ ih
    have hQ0 : zQ n kd I L Rf I Ia La T xa oa := hQ0
    have hac : (sb, sl0) = a_swo T k := hac
    have hex : (sb = -1 ∨ ∃ p q, p < T.c ∧ q < T.c ∧ sb = nI (10 * p + q)) := hex
    show ez_P _ _ _ _ _ _ 13 [(3, .int (nI k)), (2, .int sl0), (1, .int sb), (0, .ref 112)] [] (n, sl, kd, Ia, La, Rf) _
    refine ez_iload_n (i := 3) dX11_swaps_13 rfl rfl ?_
    refine ez_aload_n (i := 0) dX11_swaps_14 rfl rfl ?_
    refine ez_getI dX11_swaps_15 flX11_95 (hF.lt (by decide)) (hF.kc (by decide) rfl) ?_
    refine ez_topE (y := nI T.c) hQ0.M.c ?_
    refine ez_icmp_ge (tgt := 79) dX11_swaps_18 (by decide) (fun c3 => absurd c3 (nI_ge hk (by omega))) (fun c3 => ?_)
    refine ez_iload_n (i := 3) dX11_swaps_21 rfl rfl ?_
    refine ez_iconst (v := 1) dX11_swaps_22 (by decide) ?_
    refine ez_iadd dX11_swaps_23 ?_
    refine ez_topE (y := nI (k + 1)) (nI_add _ _) ?_
    refine ez_istore (l' := [(4, .int (nI (k + 1))), (3, .int (nI k)), (2, .int sl0), (1, .int sb), (0, .ref 112)]) dX11_swaps_24 (by decide) rfl ?_
    refine ez_sub (l' := [(4, .int (nI (k + 1))), (2, .int sl0), (1, .int sb), (3, .int (nI k)), (0, .ref 112)]) [0, 2, 3, 1, 4] rfl ?_
    refine ez_eq (l2 := [(4, .int (nI (k + 1 + 0))), (2, .int sl0), (1, .int sb), (3, .int (nI k)), (0, .ref 112)]) (σ2 := (n, sl, kd, Ia, La, Rf)) rfl rfl rfl rfl ?_
    refine ez_for (T.c - (k + 1)) (fun j (a : (Nat → Nat → Int32) × (Nat → Nat → Int64) × (Nat → Int32) × Int32 × Int32 × Int32) => ([(4, .int (nI (k + 1 + j))), (2, .int a.2.2.2.2.2), (1, .int a.2.2.2.2.1), (3, .int (nI k)), (0, .ref 112)], (n, sl, kd, a.1, a.2.1, Rf))) (fun j a => zQ n kd I L Rf I a.1 a.2.1 T a.2.2.1 a.2.2.2.1 ∧ (a.2.2.2.2.1, a.2.2.2.2.2) = a_swi T k (sb, sl0) j ∧ (a.2.2.2.2.1 = -1 ∨ ∃ p q, p < T.c ∧ q < T.c ∧ a.2.2.2.2.1 = nI (10 * p + q))) ?_ ?_ (T.c - (k + 1)) 0 (Ia, La, xa, oa, sb, sl0) (by omega) ⟨hQ0, rfl, hex⟩
    · rintro j ⟨Ia2, La2, xa2, oa2, sb2, sl2⟩ hk2 ⟨hQ02, hac2, hex2⟩ ih2
      have hQ02 : zQ n kd I L Rf I Ia2 La2 T xa2 oa2 := hQ02
      have hac2 : (sb2, sl2) = a_swi T k (sb, sl0) j := hac2
      have hex2 : (sb2 = -1 ∨ ∃ p q, p < T.c ∧ q < T.c ∧ sb2 = nI (10 * p + q)) := hex2
      show ez_P _ _ _ _ _ _ 26 [(4, .int (nI (k + 1 + j))), (2, .int sl2), (1, .int sb2), (3, .int (nI k)), (0, .ref 112)] [] (n, sl, kd, Ia2, La2, Rf) _
      refine ez_iload (i := 4) dX11_swaps_26 rfl ?_
      refine ez_aload_n (i := 0) dX11_swaps_28 rfl rfl ?_
      refine ez_getI dX11_swaps_29 flX11_95 (hF.lt (by decide)) (hF.kc (by decide) rfl) ?_
      refine ez_topE (y := nI T.c) hQ02.M.c ?_
      refine ez_icmp_ge (tgt := 73) dX11_swaps_32 (by decide) (fun c4 => absurd c4 (nI_ge (by omega) (by omega))) (fun c4 => ?_)
      refine ez_aload_n (i := 0) dX11_swaps_35 rfl rfl ?_
      refine ez_iload_n (i := 3) dX11_swaps_36 rfl rfl ?_
      refine ez_iload (i := 4) dX11_swaps_37 rfl ?_
      refine ez_callV (M1 := mX11_pullSwapped) (rest := []) dX11_swaps_39 mlX11_324 mvX11_pullSwapped rfl (hF.lt (by decide)) (hF.kc (by decide) rfl) (Nat.le_of_ble_eq_true rfl) rfl (y_X11_pullSwapped (T := T) (I := Ia2) (L := La2) (d + 49) hQ02 ⟨rfl, rfl, rfl, rfl, rfl, rfl⟩ hO hH (p0 := k) (q0 := (k + 1 + j)) (by omega) (by omega)) zpQ_ok ?_
      rintro _ _ ⟨rfl, I5, x6, o7, rfl, hQ8⟩
      show ez_P _ _ _ _ _ _ 42 [(4, .int (nI (k + 1 + j))), (2, .int sl2), (1, .int sb2), (3, .int (nI k)), (0, .ref 112)] (.int (zsp T k (k + 1 + j)) :: []) (n, sl, kd, I5, La2, Rf) _
      have hQ8 : zQ n kd I L Rf I I5 La2 T x6 o7 := hQ8
      refine ez_abs dX11_swaps_42 xmX11_192 (Nat.le_of_ble_eq_true rfl) ?_
      refine ez_topE (y := z_ab (zsp T k (k + 1 + j))) rfl ?_
      refine ez_istore (l' := [(5, .int (z_ab (zsp T k (k + 1 + j)))), (4, .int (nI (k + 1 + j))), (2, .int sl2), (1, .int sb2), (3, .int (nI k)), (0, .ref 112)]) dX11_swaps_45 (by decide) rfl ?_
      refine ez_iload (i := 5) dX11_swaps_47 rfl ?_
      refine ez_iload_n (i := 2) dX11_swaps_49 rfl rfl ?_
      refine ez_icmp_lt (tgt := 56) dX11_swaps_50 (by decide) (fun c9 => ?_) (fun c9 => ?_)
      · skip
        refine ez_bipush (v := 10) dX11_swaps_56 (by decide) ?_
        refine ez_iload_n (i := 3) dX11_swaps_58 rfl rfl ?_
        refine ez_imul dX11_swaps_59 ?_
        refine ez_topE (y := nI (10 * k)) (nI_mul _ _) ?_
        refine ez_iload (i := 4) dX11_swaps_60 rfl ?_
        refine ez_iadd dX11_swaps_62 ?_
        refine ez_topE (y := nI ((10 * k) + (k + 1 + j))) (nI_add _ _) ?_
        refine ez_istore_n (l' := [(1, .int (nI ((10 * k) + (k + 1 + j)))), (5, .int (z_ab (zsp T k (k + 1 + j)))), (4, .int (nI (k + 1 + j))), (2, .int sl2), (3, .int (nI k)), (0, .ref 112)]) dX11_swaps_63 rfl (by decide) rfl ?_
        refine ez_iload (i := 5) dX11_swaps_64 rfl ?_
        refine ez_istore_n (l' := [(2, .int (z_ab (zsp T k (k + 1 + j)))), (1, .int (nI ((10 * k) + (k + 1 + j)))), (5, .int (z_ab (zsp T k (k + 1 + j)))), (4, .int (nI (k + 1 + j))), (3, .int (nI k)), (0, .ref 112)]) dX11_swaps_66 rfl (by decide) rfl ?_
        refine ez_iinc (v := (nI (k + 1 + j + 1))) (l' := [(4, .int ((nI (k + 1 + j + 1)))), (2, .int (z_ab (zsp T k (k + 1 + j)))), (1, .int (nI ((10 * k) + (k + 1 + j)))), (5, .int (z_ab (zsp T k (k + 1 + j)))), (3, .int (nI k)), (0, .ref 112)]) dX11_swaps_67 rfl (nI_1 _) (by decide) rfl ?_
        refine ez_goto (tgt := 26) dX11_swaps_70 (by decide) ?_
        refine ez_sub (l' := [(4, .int ((nI (k + 1 + j + 1)))), (2, .int (z_ab (zsp T k (k + 1 + j)))), (1, .int (nI ((10 * k) + (k + 1 + j)))), (3, .int (nI k)), (0, .ref 112)]) [0, 1, 2, 4, 5] rfl ?_
        exact ez_eq (l2 := [(4, .int (nI (k + 1 + (j + 1)))), (2, .int (z_ab (zsp T k (k + 1 + j)))), (1, .int (nI ((10 * k) + (k + 1 + j)))), (3, .int (nI k)), (0, .ref 112)]) rfl rfl rfl rfl (ih2 (I5, La2, x6, o7, nI ((10 * k) + (k + 1 + j)), z_ab (zsp T k (k + 1 + j))) ⟨hQ8, (by rw [a_swi, ← hac2, b_swi]; simp only [if_pos c9]), (Or.inr ⟨k, k + 1 + j, by omega, by omega, rfl⟩)⟩)
      · skip
        refine ez_goto (tgt := 67) dX11_swaps_53 (by decide) ?_
        refine ez_iinc (v := (nI (k + 1 + j + 1))) (l' := [(4, .int ((nI (k + 1 + j + 1)))), (5, .int (z_ab (zsp T k (k + 1 + j)))), (2, .int sl2), (1, .int sb2), (3, .int (nI k)), (0, .ref 112)]) dX11_swaps_67 rfl (nI_1 _) (by decide) rfl ?_
        refine ez_goto (tgt := 26) dX11_swaps_70 (by decide) ?_
        refine ez_sub (l' := [(4, .int ((nI (k + 1 + j + 1)))), (2, .int sl2), (1, .int sb2), (3, .int (nI k)), (0, .ref 112)]) [0, 2, 3, 4, 5] rfl ?_
        exact ez_eq (l2 := [(4, .int (nI (k + 1 + (j + 1)))), (2, .int sl2), (1, .int sb2), (3, .int (nI k)), (0, .ref 112)]) rfl rfl rfl rfl (ih2 (I5, La2, x6, o7, sb2, sl2) ⟨hQ8, (by rw [a_swi, ← hac2, b_swi]; simp only [if_neg c9]), hex2⟩)
    · rintro ⟨Ia2, La2, xa2, oa2, sb2, sl2⟩ ⟨hQ02, hac2, hex2⟩
      have hQ02 : zQ n kd I L Rf I Ia2 La2 T xa2 oa2 := hQ02
      have hac2 : (sb2, sl2) = a_swi T k (sb, sl0) (T.c - (k + 1)) := hac2
      have hex2 : (sb2 = -1 ∨ ∃ p q, p < T.c ∧ q < T.c ∧ sb2 = nI (10 * p + q)) := hex2
      show ez_P _ _ _ _ _ _ 26 [(4, .int (nI (k + 1 + (T.c - (k + 1))))), (2, .int sl2), (1, .int sb2), (3, .int (nI k)), (0, .ref 112)] [] (n, sl, kd, Ia2, La2, Rf) _
      refine ez_iload (i := 4) dX11_swaps_26 rfl ?_
      refine ez_aload_n (i := 0) dX11_swaps_28 rfl rfl ?_
      refine ez_getI dX11_swaps_29 flX11_95 (hF.lt (by decide)) (hF.kc (by decide) rfl) ?_
      refine ez_topE (y := nI T.c) hQ02.M.c ?_
      refine ez_icmp_ge (tgt := 73) dX11_swaps_32 (by decide) (fun c10 => ?_) (fun c10 => absurd (nI_le (by omega) (by omega)) c10)
      refine ez_iinc (v := (nI (k + 1))) (l' := [(3, .int ((nI (k + 1)))), (4, .int (nI (k + 1 + (T.c - (k + 1))))), (2, .int sl2), (1, .int sb2), (0, .ref 112)]) dX11_swaps_73 rfl (nI_1 _) (by decide) rfl ?_
      refine ez_goto (tgt := 13) dX11_swaps_76 (by decide) ?_
      refine ez_sub (l' := [(3, .int ((nI (k + 1)))), (2, .int sl2), (1, .int sb2), (0, .ref 112)]) [0, 2, 3, 4] rfl ?_
      exact ez_eq (l2 := [(3, .int (nI (k + 1))), (2, .int sl2), (1, .int sb2), (0, .ref 112)]) rfl rfl rfl rfl (ih (Ia2, La2, xa2, oa2, sb2, sl2) ⟨hQ02, (by rw [a_swo, ← hac, b_swo]; exact hac2), hex2⟩)
  · rintro ⟨Ia, La, xa, oa, sb, sl0⟩ ⟨hQ0, hac, hex⟩
    have hQ0 : zQ n kd I L Rf I Ia La T xa oa := hQ0
    have hac : (sb, sl0) = a_swo T T.c := hac
    have hex : (sb = -1 ∨ ∃ p q, p < T.c ∧ q < T.c ∧ sb = nI (10 * p + q)) := hex
    show ez_P _ _ _ _ _ _ 13 [(3, .int (nI T.c)), (2, .int sl0), (1, .int sb), (0, .ref 112)] [] (n, sl, kd, Ia, La, Rf) _
    refine ez_iload_n (i := 3) dX11_swaps_13 rfl rfl ?_
    refine ez_aload_n (i := 0) dX11_swaps_14 rfl rfl ?_
    refine ez_getI dX11_swaps_15 flX11_95 (hF.lt (by decide)) (hF.kc (by decide) rfl) ?_
    refine ez_topE (y := nI T.c) hQ0.M.c ?_
    refine ez_icmp_ge (tgt := 79) dX11_swaps_18 (by decide) (fun c11 => ?_) (fun c11 => absurd (nI_le (Nat.le_refl _) (by omega)) c11)
    refine ez_iload_n (i := 1) dX11_swaps_79 rfl rfl ?_
    refine ez_iconst (v := (-1)) dX11_swaps_80 (by decide) ?_
    refine ez_icmp_ne (tgt := 87) dX11_swaps_81 (by decide) (fun c12 => ?_) (fun c12 => ?_)
    · skip
      obtain ⟨pp, qq, hpp, hqq, hpq⟩ := hex.resolve_left c12
      refine ez_aload_n (i := 0) dX11_swaps_87 rfl rfl ?_
      refine ez_iconst (v := 0) dX11_swaps_88 (by decide) ?_
      refine ez_pI dX11_swaps_89 plX11_92 (hF.lt (by decide)) (hF.lx (by decide)) (hF.kc (by decide) rfl) rfl rfl ?_
      refine ez_nmI (fun I13 hI13 => ?_)
      have hQ14 : zQ n kd I L Rf I I13 La (T.w_rw []) xa oa := by rw [hI13]; exact hQ0.row0
      refine ez_aload_n (i := 0) dX11_swaps_92 rfl rfl ?_
      refine ez_bipush (v := 100) dX11_swaps_93 (by decide) ?_
      refine ez_aload_n (i := 0) dX11_swaps_95 rfl rfl ?_
      refine ez_iload_n (i := 1) dX11_swaps_96 rfl rfl ?_
      refine ez_bipush (v := 10) dX11_swaps_97 (by decide) ?_
      refine ez_idiv dX11_swaps_99 (by decide) ?_
      refine ez_topE (y := nI pp) (by rw [hpq]; exact (z_d10 pp (by omega) qq (by omega)).1) ?_
      refine ez_iload_n (i := 1) dX11_swaps_100 rfl rfl ?_
      refine ez_bipush (v := 10) dX11_swaps_101 (by decide) ?_
      refine ez_irem dX11_swaps_103 (by decide) ?_
      refine ez_topE (y := nI qq) (by rw [hpq]; exact (z_d10 pp (by omega) qq (by omega)).2) ?_
      refine ez_callV (M1 := mX11_pullSwapped) (rest := [.int 100, .ref 112]) dX11_swaps_104 mlX11_324 mvX11_pullSwapped rfl (hF.lt (by decide)) (hF.kc (by decide) rfl) (Nat.le_of_ble_eq_true rfl) rfl (y_X11_pullSwapped (T := T) (I := I13) (L := La) (d + 49) hQ14 ⟨rfl, rfl, rfl, rfl, rfl, rfl⟩ hO hH (p0 := pp) (q0 := qq) (by omega) (by omega)) zpQ_ok ?_
      rintro _ _ ⟨rfl, I15, x16, o17, rfl, hQ18⟩
      show ez_P _ _ _ _ _ _ 107 [(3, .int (nI T.c)), (2, .int sl0), (1, .int sb), (0, .ref 112)] (.int (zsp T pp qq) :: [.int 100, .ref 112]) (n, sl, kd, I15, La, Rf) _
      have hQ18 : zQ n kd I L Rf I I15 La (T.w_rw []) x16 o17 := hQ18
      refine ez_iadd dX11_swaps_107 ?_
      refine ez_i2l dX11_swaps_108 rfl ?_
      refine ez_callV (M1 := mX11_tell) (rest := []) dX11_swaps_109 mlX11_252 mvX11_tell rfl (hF.lt (by decide)) (hF.kc (by decide) rfl) (Nat.le_of_ble_eq_true rfl) rfl (y_X11_tell (I := I15) (L := La) (d + 399) hF (k := 0) hQ18.M.rw.1 (by decide) ((100 + (zsp T pp qq)).toInt64)) (eb_vok rfl) ?_
      rintro _ _ ⟨rfl, rfl⟩
      refine ez_nmI (fun I19 hI19 => ?_)
      refine ez_nmL (fun L20 hL20 => ?_)
      show ez_P _ _ _ _ _ _ 112 [(3, .int (nI T.c)), (2, .int sl0), (1, .int sb), (0, .ref 112)] [] (n, sl, kd, I19, L20, Rf) _
      have hQ21 : zQ n kd I L Rf I I19 L20 (T.w_rw [(100 + (zsp T pp qq)).toInt64]) x16 o17 := by rw [hI19, hL20]; exact hQ18.tell ((100 + (zsp T pp qq)).toInt64)
      refine ez_iload_n (i := 1) dX11_swaps_112 rfl rfl ?_
      refine ez_iret dX11_swaps_113 rfl rfl ?_
      have ed := z_d10 pp (by omega) qq (by omega)
      rw [show s_swaps T = (sb, T.w_rw [(100 + zsp T pp qq).toInt64]) from by unfold s_swaps; rw [← hac, if_neg (show ¬ sb = -1 from c12)]; simp only; rw [hpq, ed.2, ed.1, nI_clamp (by omega), nI_clamp (by omega)]]
      exact hQ21.end
    · skip
      refine ez_bipush (v := (-2)) dX11_swaps_84 (by decide) ?_
      refine ez_iret dX11_swaps_86 rfl rfl ?_
      rw [show s_swaps T = (-2, T) from by unfold s_swaps; rw [← hac, if_pos (show sb = -1 from Classical.not_not.mp c12)]]
      exact hQ0.end
def b_lni (T : zT) (se : Int32) (k : Nat) (a : Int32) : Int32 := if se >>> (nI k &&& 31) &&& 1 = 1 then a else if a = -1 then nI k else if zwt T T.x k ≤ zwt T T.x a.toNatClampNeg then a else nI k
def a_lni (T : zT) (se : Int32) : Nat → Int32
  | 0 => -1
  | k + 1 => b_lni T se k (a_lni T se k)
def b_line (T : zT) (k : Nat) (a : Int32 × List Int64) : Int32 × List Int64 := (a.1 ||| (1 <<< (a_lni T a.1 T.c &&& 31)), a.2 ++ [(a_lni T a.1 T.c).toInt64])
def a_line (T : zT) : Nat → Int32 × List Int64
  | 0 => (0, [])
  | k + 1 => b_line T k (a_line T k)
def s_line (T : zT) : Int32 × zT := (nI T.c, T.w_rw (a_line T T.c).2)
theorem y_X11_line {n : Nat} {sl : Nat × Nat} {kd : Nat → Nat × Nat} {I : Nat → Nat → Int32} {L : Nat → Nat → Int64} {Rf : Nat → Nat → Option Nat} (d : Nat) {T : zT} {H : Nat} (hM : zM n kd I L Rf T) (hO : zOk H T) (hH : H ≤ 1000000000)  : zq mX11_line (d + 400) [.ref 112] (n, sl, kd, I, L, Rf) (zpM n sl kd I L Rf (some (.int (s_line T).1)) (s_line T).2) := by
  have hF := hM.F; have hc7 := hO.c
  intro f B
  refine ez_meth pn_X.2.2.2.2.2.2.2.2.2.2.2 (Nat.le_of_ble_eq_true rfl) ?_
  show ez_P _ _ _ _ _ _ 0 [(0, .ref 112)] [] (n, sl, kd, I, L, Rf) _
  refine ez_aload_n (i := 0) dX11_line_0 rfl rfl ?_
  refine ez_iconst (v := 0) dX11_line_1 (by decide) ?_
  refine ez_pI dX11_line_2 plX11_89 (hF.lt (by decide)) (hF.lx (by decide)) (hF.kc (by decide) rfl) rfl rfl ?_
  refine ez_nmI (fun I1 hI1 => ?_)
  have hQ2 : zQ n kd I L Rf I I1 L T (I 124) (I 112 25) := by rw [hI1]; exact zQ.start hM
  refine ez_iconst (v := 0) dX11_line_5 (by decide) ?_
  refine ez_istore_n (l' := [(1, .int 0), (0, .ref 112)]) dX11_line_6 rfl (by decide) rfl ?_
  refine ez_aload_n (i := 0) dX11_line_7 rfl rfl ?_
  refine ez_iconst (v := 0) dX11_line_8 (by decide) ?_
  refine ez_pI dX11_line_9 plX11_92 (hF.lt (by decide)) (hF.lx (by decide)) (hF.kc (by decide) rfl) rfl rfl ?_
  refine ez_nmI (fun I3 hI3 => ?_)
  have hQ4 : zQ n kd I L Rf I I3 L (T.w_rw []) (I 124) (I 112 25) := by rw [hI3]; exact hQ2.row0
  refine ez_iconst (v := 0) dX11_line_12 (by decide) ?_
  refine ez_istore_n (l' := [(2, .int 0), (1, .int 0), (0, .ref 112)]) dX11_line_13 rfl (by decide) rfl ?_
  refine ez_eq (l2 := [(2, .int (nI 0)), (1, .int 0), (0, .ref 112)]) (σ2 := (n, sl, kd, I3, L, Rf)) rfl rfl rfl rfl ?_
  refine ez_for T.c (fun k (a : (Nat → Nat → Int32) × (Nat → Nat → Int64) × Int32 × Int32 × (List Int64)) => ([(2, .int (nI k)), (1, .int a.2.2.2.1), (0, .ref 112)], (n, sl, kd, a.1, a.2.1, Rf))) (fun k a => zQ n kd I L Rf I a.1 a.2.1 (T.w_rw a.2.2.2.2) (I 124) a.2.2.1 ∧ (a.2.2.2.1, a.2.2.2.2) = a_line T k ∧ a.2.2.2.2.length = k) ?_ ?_ T.c 0 (I3, L, I 112 25, 0, []) (by omega) ⟨hQ4, rfl, rfl⟩
  · rintro k ⟨Ia, La, oa, se, ro⟩ hk ⟨hQ0, hac, hex⟩ ih
    have hQ0 : zQ n kd I L Rf I Ia La (T.w_rw ro) (I 124) oa := hQ0
    have hac : (se, ro) = a_line T k := hac
    have hex : ro.length = k := hex
    show ez_P _ _ _ _ _ _ 14 [(2, .int (nI k)), (1, .int se), (0, .ref 112)] [] (n, sl, kd, Ia, La, Rf) _
    refine ez_iload_n (i := 2) dX11_line_14 rfl rfl ?_
    refine ez_aload_n (i := 0) dX11_line_15 rfl rfl ?_
    refine ez_getI dX11_line_16 flX11_95 (hF.lt (by decide)) (hF.kc (by decide) rfl) ?_
    refine ez_topE (y := nI T.c) hQ0.M.c ?_
    refine ez_icmp_ge (tgt := 99) dX11_line_19 (by decide) (fun c5 => absurd c5 (nI_ge hk (by omega))) (fun c5 => ?_)
    refine ez_iconst (v := (-1)) dX11_line_22 (by decide) ?_
    refine ez_istore_n (l' := [(3, .int ((-1))), (2, .int (nI k)), (1, .int se), (0, .ref 112)]) dX11_line_23 rfl (by decide) rfl ?_
    refine ez_iconst (v := 0) dX11_line_24 (by decide) ?_
    refine ez_istore (l' := [(4, .int 0), (3, .int ((-1))), (2, .int (nI k)), (1, .int se), (0, .ref 112)]) dX11_line_25 (by decide) rfl ?_
    refine ez_eq (l2 := [(4, .int (nI 0)), (3, .int ((-1))), (2, .int (nI k)), (1, .int se), (0, .ref 112)]) (σ2 := (n, sl, kd, Ia, La, Rf)) rfl rfl rfl rfl ?_
    refine ez_for T.c (fun j (a : (Nat → Nat → Int32) × (Nat → Nat → Int64) × Int32 × Int32) => ([(4, .int (nI j)), (3, .int a.2.2.2), (2, .int (nI k)), (1, .int se), (0, .ref 112)], (n, sl, kd, a.1, a.2.1, Rf))) (fun j a => zQ n kd I L Rf I a.1 a.2.1 (T.w_rw ro) (I 124) a.2.2.1 ∧ a.2.2.2 = a_lni T se j ∧ (a.2.2.2 = -1 ∨ ∃ b, b < T.c ∧ a.2.2.2 = nI b)) ?_ ?_ T.c 0 (Ia, La, oa, (-1)) (by omega) ⟨hQ0, rfl, (Or.inl rfl)⟩
    · rintro j ⟨Ia2, La2, oa2, nx⟩ hk2 ⟨hQ02, hac2, hex2⟩ ih2
      have hQ02 : zQ n kd I L Rf I Ia2 La2 (T.w_rw ro) (I 124) oa2 := hQ02
      have hac2 : nx = a_lni T se j := hac2
      have hex2 : (nx = -1 ∨ ∃ b, b < T.c ∧ nx = nI b) := hex2
      show ez_P _ _ _ _ _ _ 27 [(4, .int (nI j)), (3, .int nx), (2, .int (nI k)), (1, .int se), (0, .ref 112)] [] (n, sl, kd, Ia2, La2, Rf) _
      refine ez_iload (i := 4) dX11_line_27 rfl ?_
      refine ez_aload_n (i := 0) dX11_line_29 rfl rfl ?_
      refine ez_getI dX11_line_30 flX11_95 (hF.lt (by decide)) (hF.kc (by decide) rfl) ?_
      refine ez_topE (y := nI T.c) hQ02.M.c ?_
      refine ez_icmp_ge (tgt := 81) dX11_line_33 (by decide) (fun c6 => absurd c6 (nI_ge hk2 (by omega))) (fun c6 => ?_)
      refine ez_iload_n (i := 1) dX11_line_36 rfl rfl ?_
      refine ez_iload (i := 4) dX11_line_37 rfl ?_
      refine ez_callS (M1 := mX11_has) (rest := []) dX11_line_39 mlX11_306 msX11_has rfl (Nat.le_of_ble_eq_true rfl) rfl (zq_b (q_X11_has (d + 399) se (nI j)) (n, sl, kd, Ia2, La2, Rf)) eb_bok ?_
      rintro _ _ ⟨rfl, ⟨b7, rfl⟩ | ⟨b7, rfl⟩⟩
      · show ez_P _ _ _ _ _ _ 42 [(4, .int (nI j)), (3, .int nx), (2, .int (nI k)), (1, .int se), (0, .ref 112)] (.int 1 :: []) _ _
        refine ez_if_ne (tgt := 75) dX11_line_42 (by decide) (fun c8 => ?_) (fun c8 => absurd (by decide) c8)
        refine ez_iinc (v := (nI (j + 1))) (l' := [(4, .int ((nI (j + 1)))), (3, .int nx), (2, .int (nI k)), (1, .int se), (0, .ref 112)]) dX11_line_75 rfl (nI_1 _) (by decide) rfl ?_
        refine ez_goto (tgt := 27) dX11_line_78 (by decide) ?_
        exact ez_eq (l2 := [(4, .int (nI (j + 1))), (3, .int nx), (2, .int (nI k)), (1, .int se), (0, .ref 112)]) rfl rfl rfl rfl (ih2 (Ia2, La2, oa2, nx) ⟨hQ02, (by rw [a_lni, ← hac2, b_lni]; simp only [if_pos b7]), hex2⟩)
      · show ez_P _ _ _ _ _ _ 42 [(4, .int (nI j)), (3, .int nx), (2, .int (nI k)), (1, .int se), (0, .ref 112)] (.int 0 :: []) _ _
        refine ez_if_ne (tgt := 75) dX11_line_42 (by decide) (fun c9 => absurd c9 (by decide)) (fun c9 => ?_)
        refine ez_iload_n (i := 3) dX11_line_45 rfl rfl ?_
        refine ez_iconst (v := (-1)) dX11_line_46 (by decide) ?_
        refine ez_icmp_eq (tgt := 72) dX11_line_47 (by decide) (fun c10 => ?_) (fun c10 => ?_)
        · skip
          refine ez_iload (i := 4) dX11_line_72 rfl ?_
          refine ez_istore_n (l' := [(3, .int (nI j)), (4, .int (nI j)), (2, .int (nI k)), (1, .int se), (0, .ref 112)]) dX11_line_74 rfl (by decide) rfl ?_
          refine ez_iinc (v := (nI (j + 1))) (l' := [(4, .int ((nI (j + 1)))), (3, .int (nI j)), (2, .int (nI k)), (1, .int se), (0, .ref 112)]) dX11_line_75 rfl (nI_1 _) (by decide) rfl ?_
          refine ez_goto (tgt := 27) dX11_line_78 (by decide) ?_
          exact ez_eq (l2 := [(4, .int (nI (j + 1))), (3, .int (nI j)), (2, .int (nI k)), (1, .int se), (0, .ref 112)]) rfl rfl rfl rfl (ih2 (Ia2, La2, oa2, nI j) ⟨hQ02, (by rw [a_lni, ← hac2, b_lni]; simp only [if_neg b7, if_pos c10]), (Or.inr ⟨_, by assumption, rfl⟩)⟩)
        · skip
          obtain ⟨bq, hbq, rfl⟩ := hex2.resolve_left c10
          refine ez_aload_n (i := 0) dX11_line_50 rfl rfl ?_
          refine ez_aload_n (i := 0) dX11_line_51 rfl rfl ?_
          refine ez_getR dX11_line_52 flX11_9 (hF.lt (by decide)) (hF.kc (by decide) rfl) (hF.pt 107 rfl) ?_
          refine ez_iload (i := 4) dX11_line_55 rfl ?_
          refine ez_callV (M1 := mX11_weightOf) (rest := []) dX11_line_57 mlX11_204 mvX11_weightOf rfl (hF.lt (by decide)) (hF.kc (by decide) rfl) (Nat.le_of_ble_eq_true rfl) rfl (y_wt (I := Ia2) (L := La2) (d + 93) (hQ02.M.W.to (T1 := T) rfl rfl rfl rfl rfl) hc7 (Or.inl rfl) hQ02.M.x hO.x (by omega) (by omega)) eb_rok ?_
          rintro _ _ ⟨rfl, rfl⟩
          show ez_P _ _ _ _ _ _ 60 [(4, .int (nI j)), (3, .int (nI bq)), (2, .int (nI k)), (1, .int se), (0, .ref 112)] (.int (zwt T T.x j) :: []) _ _
          refine ez_aload_n (i := 0) dX11_line_60 rfl rfl ?_
          refine ez_aload_n (i := 0) dX11_line_61 rfl rfl ?_
          refine ez_getR dX11_line_62 flX11_9 (hF.lt (by decide)) (hF.kc (by decide) rfl) (hF.pt 107 rfl) ?_
          refine ez_iload_n (i := 3) dX11_line_65 rfl rfl ?_
          refine ez_callV (M1 := mX11_weightOf) (rest := [.int (zwt T T.x j)]) dX11_line_66 mlX11_204 mvX11_weightOf rfl (hF.lt (by decide)) (hF.kc (by decide) rfl) (Nat.le_of_ble_eq_true rfl) rfl (y_wt (I := Ia2) (L := La2) (d + 93) (hQ02.M.W.to (T1 := T) rfl rfl rfl rfl rfl) hc7 (Or.inl rfl) hQ02.M.x hO.x (by omega) (by omega)) eb_rok ?_
          rintro _ _ ⟨rfl, rfl⟩
          show ez_P _ _ _ _ _ _ 69 [(4, .int (nI j)), (3, .int (nI bq)), (2, .int (nI k)), (1, .int se), (0, .ref 112)] (.int (zwt T T.x bq) :: [.int (zwt T T.x j)]) _ _
          refine ez_icmp_le (tgt := 75) dX11_line_69 (by decide) (fun c11 => ?_) (fun c11 => ?_)
          · skip
            refine ez_iinc (v := (nI (j + 1))) (l' := [(4, .int ((nI (j + 1)))), (3, .int (nI bq)), (2, .int (nI k)), (1, .int se), (0, .ref 112)]) dX11_line_75 rfl (nI_1 _) (by decide) rfl ?_
            refine ez_goto (tgt := 27) dX11_line_78 (by decide) ?_
            exact ez_eq (l2 := [(4, .int (nI (j + 1))), (3, .int (nI bq)), (2, .int (nI k)), (1, .int se), (0, .ref 112)]) rfl rfl rfl rfl (ih2 (Ia2, La2, oa2, nI bq) ⟨hQ02, (by rw [a_lni, ← hac2, b_lni]; simp only [if_neg b7, if_neg c10, if_pos c11, nI_clamp (show bq < 2 ^ 31 by omega)]), (Or.inr ⟨_, by assumption, rfl⟩)⟩)
          · skip
            refine ez_iload (i := 4) dX11_line_72 rfl ?_
            refine ez_istore_n (l' := [(3, .int (nI j)), (4, .int (nI j)), (2, .int (nI k)), (1, .int se), (0, .ref 112)]) dX11_line_74 rfl (by decide) rfl ?_
            refine ez_iinc (v := (nI (j + 1))) (l' := [(4, .int ((nI (j + 1)))), (3, .int (nI j)), (2, .int (nI k)), (1, .int se), (0, .ref 112)]) dX11_line_75 rfl (nI_1 _) (by decide) rfl ?_
            refine ez_goto (tgt := 27) dX11_line_78 (by decide) ?_
            exact ez_eq (l2 := [(4, .int (nI (j + 1))), (3, .int (nI j)), (2, .int (nI k)), (1, .int se), (0, .ref 112)]) rfl rfl rfl rfl (ih2 (Ia2, La2, oa2, nI j) ⟨hQ02, (by rw [a_lni, ← hac2, b_lni]; simp only [if_neg b7, if_neg c10, if_neg c11, nI_clamp (show bq < 2 ^ 31 by omega)]), (Or.inr ⟨_, by assumption, rfl⟩)⟩)
    · rintro ⟨Ia2, La2, oa2, nx⟩ ⟨hQ02, hac2, hex2⟩
      have hQ02 : zQ n kd I L Rf I Ia2 La2 (T.w_rw ro) (I 124) oa2 := hQ02
      have hac2 : nx = a_lni T se T.c := hac2
      have hex2 : (nx = -1 ∨ ∃ b, b < T.c ∧ nx = nI b) := hex2
      show ez_P _ _ _ _ _ _ 27 [(4, .int (nI T.c)), (3, .int nx), (2, .int (nI k)), (1, .int se), (0, .ref 112)] [] (n, sl, kd, Ia2, La2, Rf) _
      refine ez_iload (i := 4) dX11_line_27 rfl ?_
      refine ez_aload_n (i := 0) dX11_line_29 rfl rfl ?_
      refine ez_getI dX11_line_30 flX11_95 (hF.lt (by decide)) (hF.kc (by decide) rfl) ?_
      refine ez_topE (y := nI T.c) hQ02.M.c ?_
      refine ez_icmp_ge (tgt := 81) dX11_line_33 (by decide) (fun c12 => ?_) (fun c12 => absurd (nI_le (Nat.le_refl _) (by omega)) c12)
      refine ez_iload_n (i := 1) dX11_line_81 rfl rfl ?_
      refine ez_iconst (v := 1) dX11_line_82 (by decide) ?_
      refine ez_iload_n (i := 3) dX11_line_83 rfl rfl ?_
      refine ez_ishl dX11_line_84 ?_
      refine ez_ior dX11_line_85 ?_
      refine ez_istore_n (l' := [(1, .int (se ||| (1 <<< (nx &&& 31)))), (4, .int (nI T.c)), (3, .int nx), (2, .int (nI k)), (0, .ref 112)]) dX11_line_86 rfl (by decide) rfl ?_
      refine ez_aload_n (i := 0) dX11_line_87 rfl rfl ?_
      refine ez_iload_n (i := 3) dX11_line_88 rfl rfl ?_
      refine ez_i2l dX11_line_89 rfl ?_
      refine ez_callV (M1 := mX11_tell) (rest := []) dX11_line_90 mlX11_252 mvX11_tell rfl (hF.lt (by decide)) (hF.kc (by decide) rfl) (Nat.le_of_ble_eq_true rfl) rfl (y_X11_tell (I := Ia2) (L := La2) (d + 399) hF (k := ro.length) hQ02.M.rw.1 (by omega) nx.toInt64) (eb_vok rfl) ?_
      rintro _ _ ⟨rfl, rfl⟩
      refine ez_nmI (fun I13 hI13 => ?_)
      refine ez_nmL (fun L14 hL14 => ?_)
      show ez_P _ _ _ _ _ _ 93 [(1, .int (se ||| (1 <<< (nx &&& 31)))), (4, .int (nI T.c)), (3, .int nx), (2, .int (nI k)), (0, .ref 112)] [] (n, sl, kd, I13, L14, Rf) _
      have hQ15 : zQ n kd I L Rf I I13 L14 (T.w_rw (ro ++ [nx.toInt64])) (I 124) oa2 := by rw [hI13, hL14]; exact hQ02.tell nx.toInt64
      refine ez_iinc (v := (nI (k + 1))) (l' := [(2, .int ((nI (k + 1)))), (1, .int (se ||| (1 <<< (nx &&& 31)))), (4, .int (nI T.c)), (3, .int nx), (0, .ref 112)]) dX11_line_93 rfl (nI_1 _) (by decide) rfl ?_
      refine ez_goto (tgt := 14) dX11_line_96 (by decide) ?_
      refine ez_sub (l' := [(2, .int ((nI (k + 1)))), (1, .int (se ||| (1 <<< (nx &&& 31)))), (0, .ref 112)]) [0, 1, 4] rfl ?_
      exact ez_eq (l2 := [(2, .int (nI (k + 1))), (1, .int (se ||| (1 <<< (nx &&& 31)))), (0, .ref 112)]) rfl rfl rfl rfl (ih (I13, L14, oa2, se ||| (1 <<< (nx &&& 31)), (ro ++ [nx.toInt64])) ⟨hQ15, (by rw [a_line, ← hac, b_line, ← hac2]), (by rw [List.length_append, hex]; rfl)⟩)
  · rintro ⟨Ia, La, oa, se, ro⟩ ⟨hQ0, hac, hex⟩
    have hQ0 : zQ n kd I L Rf I Ia La (T.w_rw ro) (I 124) oa := hQ0
    have hac : (se, ro) = a_line T T.c := hac
    have hex : ro.length = T.c := hex
    show ez_P _ _ _ _ _ _ 14 [(2, .int (nI T.c)), (1, .int se), (0, .ref 112)] [] (n, sl, kd, Ia, La, Rf) _
    refine ez_iload_n (i := 2) dX11_line_14 rfl rfl ?_
    refine ez_aload_n (i := 0) dX11_line_15 rfl rfl ?_
    refine ez_getI dX11_line_16 flX11_95 (hF.lt (by decide)) (hF.kc (by decide) rfl) ?_
    refine ez_topE (y := nI T.c) hQ0.M.c ?_
    refine ez_icmp_ge (tgt := 99) dX11_line_19 (by decide) (fun c16 => ?_) (fun c16 => absurd (nI_le (Nat.le_refl _) (by omega)) c16)
    refine ez_aload_n (i := 0) dX11_line_99 rfl rfl ?_
    refine ez_getI dX11_line_100 flX11_95 (hF.lt (by decide)) (hF.kc (by decide) rfl) ?_
    refine ez_topE (y := nI T.c) hQ0.M.c ?_
    refine ez_iret dX11_line_103 rfl rfl ?_
    rw [show s_line T = (nI T.c, T.w_rw ro) from by unfold s_line; rw [← hac]]
    exact hQ0.end
abbrev zbd (T : zT) (s : Int32) (p q : Nat) : Prop := s >>> (nI p &&& 31) &&& 1 = 1 ∧ s >>> (nI q &&& 31) &&& 1 = 1 ∧ (T.x (7 + p) = T.x (7 + q) ∨ T.x (14 + p) = T.x (14 + q))
abbrev zapt (T : zT) (s : Int32) : Prop := ∀ p, p < T.c → ∀ q, q < p → ¬ zbd T s p q
theorem y_X11_areApart {n : Nat} {sl : Nat × Nat} {kd : Nat → Nat × Nat} {I : Nat → Nat → Int32} {L : Nat → Nat → Int64} {Rf : Nat → Nat → Option Nat} (d : Nat) {T T1 : zT} {H : Nat} {I0 g : Nat → Nat → Int32} {L0 : Nat → Nat → Int64} {x : Nat → Int32} {o : Int32} (hQ : zQ n kd I0 L0 Rf g I L T1 x o) (hT : zsm T T1) (hO : zOk H T) (hH : H ≤ 1000000000) (s : Int32)  : zq mX11_areApart (d + 350) [.ref 112, .int s] (n, sl, kd, I, L, Rf) (eb_b (zapt T s) (n, sl, kd, I, L, Rf)) := by
  have hF := hQ.M.F; have hc7 := hO.c
  intro f B
  refine ez_meth pn_X.2.2.2.2.2.2.2.2.2.2.2 (Nat.le_of_ble_eq_true rfl) ?_
  show ez_P _ _ _ _ _ _ 0 [(0, .ref 112), (1, .int s)] [] (n, sl, kd, I, L, Rf) _
  refine ez_iconst (v := 0) dX11_areApart_0 (by decide) ?_
  refine ez_istore_n (l' := [(2, .int 0), (0, .ref 112), (1, .int s)]) dX11_areApart_1 rfl (by decide) rfl ?_
  refine ez_eq (l2 := [(2, .int (nI 0)), (0, .ref 112), (1, .int s)]) (σ2 := (n, sl, kd, I, L, Rf)) rfl rfl rfl rfl ?_
  refine ez_for T.c (fun k (a : Unit) => ([(2, .int (nI k)), (0, .ref 112), (1, .int s)], (n, sl, kd, I, L, Rf))) (fun k a => (∀ p, p < k → ∀ q, q < p → ¬ zbd T s p q)) ?_ ?_ T.c 0 () (by omega) (fun p hp => absurd hp (Nat.not_lt_zero p))
  · intro k a hk hinv ih
    show ez_P _ _ _ _ _ _ 2 [(2, .int (nI k)), (0, .ref 112), (1, .int s)] [] (n, sl, kd, I, L, Rf) _
    refine ez_iload_n (i := 2) dX11_areApart_2 rfl rfl ?_
    refine ez_aload_n (i := 0) dX11_areApart_3 rfl rfl ?_
    refine ez_getI dX11_areApart_4 flX11_95 (hF.lt (by decide)) (hF.kc (by decide) rfl) ?_
    refine ez_topE (y := nI T.c) (hQ.M.c.trans (congrArg nI hT.2.2.2.2.1.symm)) ?_
    refine ez_icmp_ge (tgt := 89) dX11_areApart_7 (by decide) (fun c1 => absurd c1 (nI_ge hk (by omega))) (fun c1 => ?_)
    refine ez_iconst (v := 0) dX11_areApart_10 (by decide) ?_
    refine ez_istore_n (l' := [(3, .int 0), (2, .int (nI k)), (0, .ref 112), (1, .int s)]) dX11_areApart_11 rfl (by decide) rfl ?_
    refine ez_eq (l2 := [(3, .int (nI 0)), (2, .int (nI k)), (0, .ref 112), (1, .int s)]) (σ2 := (n, sl, kd, I, L, Rf)) rfl rfl rfl rfl ?_
    refine ez_for k (fun j (a : Unit) => ([(3, .int (nI j)), (2, .int (nI k)), (0, .ref 112), (1, .int s)], (n, sl, kd, I, L, Rf))) (fun j a => ∀ q, q < j → ¬ zbd T s k q) ?_ ?_ k 0 () (by omega) (fun q hq => absurd hq (Nat.not_lt_zero q))
    · intro j a2 hj hinv2 ih2
      show ez_P _ _ _ _ _ _ 12 [(3, .int (nI j)), (2, .int (nI k)), (0, .ref 112), (1, .int s)] [] (n, sl, kd, I, L, Rf) _
      refine ez_iload_n (i := 3) dX11_areApart_12 rfl rfl ?_
      refine ez_iload_n (i := 2) dX11_areApart_13 rfl rfl ?_
      refine ez_icmp_ge (tgt := 83) dX11_areApart_14 (by decide) (fun c2 => absurd c2 (nI_ge hj (by omega))) (fun c2 => ?_)
      refine ez_iload_n (i := 1) dX11_areApart_17 rfl rfl ?_
      refine ez_iload_n (i := 2) dX11_areApart_18 rfl rfl ?_
      refine ez_callS (M1 := mX11_has) (rest := []) dX11_areApart_19 mlX11_306 msX11_has rfl (Nat.le_of_ble_eq_true rfl) rfl (zq_b (q_X11_has (d + 349) s (nI k)) (n, sl, kd, I, L, Rf)) eb_bok ?_
      rintro _ _ ⟨rfl, ⟨b3, rfl⟩ | ⟨b3, rfl⟩⟩
      · show ez_P _ _ _ _ _ _ 22 [(3, .int (nI j)), (2, .int (nI k)), (0, .ref 112), (1, .int s)] (.int 1 :: []) _ _
        refine ez_if_eq (tgt := 77) dX11_areApart_22 (by decide) (fun c4 => absurd c4 (by decide)) (fun c4 => ?_)
        refine ez_iload_n (i := 1) dX11_areApart_25 rfl rfl ?_
        refine ez_iload_n (i := 3) dX11_areApart_26 rfl rfl ?_
        refine ez_callS (M1 := mX11_has) (rest := []) dX11_areApart_27 mlX11_306 msX11_has rfl (Nat.le_of_ble_eq_true rfl) rfl (zq_b (q_X11_has (d + 349) s (nI j)) (n, sl, kd, I, L, Rf)) eb_bok ?_
        rintro _ _ ⟨rfl, ⟨b5, rfl⟩ | ⟨b5, rfl⟩⟩
        · show ez_P _ _ _ _ _ _ 30 [(3, .int (nI j)), (2, .int (nI k)), (0, .ref 112), (1, .int s)] (.int 1 :: []) _ _
          refine ez_if_eq (tgt := 77) dX11_areApart_30 (by decide) (fun c6 => absurd c6 (by decide)) (fun c6 => ?_)
          refine ez_aload_n (i := 0) dX11_areApart_33 rfl rfl ?_
          refine ez_getR dX11_areApart_34 flX11_9 (hF.lt (by decide)) (hF.kc (by decide) rfl) (hF.pt 107 rfl) ?_
          refine ez_bipush (v := 7) dX11_areApart_37 (by decide) ?_
          refine ez_iload_n (i := 2) dX11_areApart_39 rfl rfl ?_
          refine ez_iadd dX11_areApart_40 ?_
          refine ez_topE (y := nI (7 + k)) (nI_add _ _) ?_
          refine ez_iaN (k := (7 + k)) dX11_areApart_41 (hF.lt (by decide)) (hF.ka (by decide) rfl) (by omega) (by decide) ?_
          refine ez_topE (y := T.x (7 + k)) ((hQ.M.x _ (by omega)).trans (congrFun hT.2.2.2.2.2 _).symm) ?_
          refine ez_aload_n (i := 0) dX11_areApart_42 rfl rfl ?_
          refine ez_getR dX11_areApart_43 flX11_9 (hF.lt (by decide)) (hF.kc (by decide) rfl) (hF.pt 107 rfl) ?_
          refine ez_bipush (v := 7) dX11_areApart_46 (by decide) ?_
          refine ez_iload_n (i := 3) dX11_areApart_48 rfl rfl ?_
          refine ez_iadd dX11_areApart_49 ?_
          refine ez_topE (y := nI (7 + j)) (nI_add _ _) ?_
          refine ez_iaN (k := (7 + j)) dX11_areApart_50 (hF.lt (by decide)) (hF.ka (by decide) rfl) (by omega) (by decide) ?_
          refine ez_topE (y := T.x (7 + j)) ((hQ.M.x _ (by omega)).trans (congrFun hT.2.2.2.2.2 _).symm) ?_
          refine ez_icmp_eq (tgt := 75) dX11_areApart_51 (by decide) (fun c7 => ?_) (fun c7 => ?_)
          · skip
            refine ez_iconst (v := 0) dX11_areApart_75 (by decide) ?_
            refine ez_iret dX11_areApart_76 rfl (by decide) ?_
            exact ⟨rfl, Or.inr ⟨fun g => g k hk j hj ⟨by assumption, by assumption, by first | exact Or.inl (by assumption) | exact Or.inr (Classical.not_not.mp (by assumption))⟩, rfl⟩⟩
          · skip
            refine ez_aload_n (i := 0) dX11_areApart_54 rfl rfl ?_
            refine ez_getR dX11_areApart_55 flX11_9 (hF.lt (by decide)) (hF.kc (by decide) rfl) (hF.pt 107 rfl) ?_
            refine ez_bipush (v := 14) dX11_areApart_58 (by decide) ?_
            refine ez_iload_n (i := 2) dX11_areApart_60 rfl rfl ?_
            refine ez_iadd dX11_areApart_61 ?_
            refine ez_topE (y := nI (14 + k)) (nI_add _ _) ?_
            refine ez_iaN (k := (14 + k)) dX11_areApart_62 (hF.lt (by decide)) (hF.ka (by decide) rfl) (by omega) (by decide) ?_
            refine ez_topE (y := T.x (14 + k)) ((hQ.M.x _ (by omega)).trans (congrFun hT.2.2.2.2.2 _).symm) ?_
            refine ez_aload_n (i := 0) dX11_areApart_63 rfl rfl ?_
            refine ez_getR dX11_areApart_64 flX11_9 (hF.lt (by decide)) (hF.kc (by decide) rfl) (hF.pt 107 rfl) ?_
            refine ez_bipush (v := 14) dX11_areApart_67 (by decide) ?_
            refine ez_iload_n (i := 3) dX11_areApart_69 rfl rfl ?_
            refine ez_iadd dX11_areApart_70 ?_
            refine ez_topE (y := nI (14 + j)) (nI_add _ _) ?_
            refine ez_iaN (k := (14 + j)) dX11_areApart_71 (hF.lt (by decide)) (hF.ka (by decide) rfl) (by omega) (by decide) ?_
            refine ez_topE (y := T.x (14 + j)) ((hQ.M.x _ (by omega)).trans (congrFun hT.2.2.2.2.2 _).symm) ?_
            refine ez_icmp_ne (tgt := 77) dX11_areApart_72 (by decide) (fun c8 => ?_) (fun c8 => ?_)
            · skip
              refine ez_iinc (v := (nI (j + 1))) (l' := [(3, .int ((nI (j + 1)))), (2, .int (nI k)), (0, .ref 112), (1, .int s)]) dX11_areApart_77 rfl (nI_1 _) (by decide) rfl ?_
              refine ez_goto (tgt := 12) dX11_areApart_80 (by decide) ?_
              exact ez_eq (l2 := [(3, .int (nI (j + 1))), (2, .int (nI k)), (0, .ref 112), (1, .int s)]) rfl rfl rfl rfl (ih2 () (fun q hq => by
                by_cases e : q = j
                · subst e; intro g; first | exact absurd g.1 (by assumption) | exact absurd g.2.1 (by assumption) | (rcases g.2.2 with g | g <;> exact absurd g (by assumption))
                · exact hinv2 q (by omega)))
            · skip
              refine ez_iconst (v := 0) dX11_areApart_75 (by decide) ?_
              refine ez_iret dX11_areApart_76 rfl (by decide) ?_
              exact ⟨rfl, Or.inr ⟨fun g => g k hk j hj ⟨by assumption, by assumption, by first | exact Or.inl (by assumption) | exact Or.inr (Classical.not_not.mp (by assumption))⟩, rfl⟩⟩
        · show ez_P _ _ _ _ _ _ 30 [(3, .int (nI j)), (2, .int (nI k)), (0, .ref 112), (1, .int s)] (.int 0 :: []) _ _
          refine ez_if_eq (tgt := 77) dX11_areApart_30 (by decide) (fun c9 => ?_) (fun c9 => absurd (by decide) c9)
          refine ez_iinc (v := (nI (j + 1))) (l' := [(3, .int ((nI (j + 1)))), (2, .int (nI k)), (0, .ref 112), (1, .int s)]) dX11_areApart_77 rfl (nI_1 _) (by decide) rfl ?_
          refine ez_goto (tgt := 12) dX11_areApart_80 (by decide) ?_
          exact ez_eq (l2 := [(3, .int (nI (j + 1))), (2, .int (nI k)), (0, .ref 112), (1, .int s)]) rfl rfl rfl rfl (ih2 () (fun q hq => by
            by_cases e : q = j
            · subst e; intro g; first | exact absurd g.1 (by assumption) | exact absurd g.2.1 (by assumption) | (rcases g.2.2 with g | g <;> exact absurd g (by assumption))
            · exact hinv2 q (by omega)))
      · show ez_P _ _ _ _ _ _ 22 [(3, .int (nI j)), (2, .int (nI k)), (0, .ref 112), (1, .int s)] (.int 0 :: []) _ _
        refine ez_if_eq (tgt := 77) dX11_areApart_22 (by decide) (fun c10 => ?_) (fun c10 => absurd (by decide) c10)
        refine ez_iinc (v := (nI (j + 1))) (l' := [(3, .int ((nI (j + 1)))), (2, .int (nI k)), (0, .ref 112), (1, .int s)]) dX11_areApart_77 rfl (nI_1 _) (by decide) rfl ?_
        refine ez_goto (tgt := 12) dX11_areApart_80 (by decide) ?_
        exact ez_eq (l2 := [(3, .int (nI (j + 1))), (2, .int (nI k)), (0, .ref 112), (1, .int s)]) rfl rfl rfl rfl (ih2 () (fun q hq => by
          by_cases e : q = j
          · subst e; intro g; first | exact absurd g.1 (by assumption) | exact absurd g.2.1 (by assumption) | (rcases g.2.2 with g | g <;> exact absurd g (by assumption))
          · exact hinv2 q (by omega)))
    · intro a2 hinv2
      show ez_P _ _ _ _ _ _ 12 [(3, .int (nI k)), (2, .int (nI k)), (0, .ref 112), (1, .int s)] [] (n, sl, kd, I, L, Rf) _
      refine ez_iload_n (i := 3) dX11_areApart_12 rfl rfl ?_
      refine ez_iload_n (i := 2) dX11_areApart_13 rfl rfl ?_
      refine ez_icmp_ge (tgt := 83) dX11_areApart_14 (by decide) (fun c11 => ?_) (fun c11 => absurd (nI_le (Nat.le_refl _) (by omega)) c11)
      refine ez_iinc (v := (nI (k + 1))) (l' := [(2, .int ((nI (k + 1)))), (3, .int (nI k)), (0, .ref 112), (1, .int s)]) dX11_areApart_83 rfl (nI_1 _) (by decide) rfl ?_
      refine ez_goto (tgt := 2) dX11_areApart_86 (by decide) ?_
      refine ez_sub (l' := [(2, .int ((nI (k + 1)))), (0, .ref 112), (1, .int s)]) [0, 2, 3] rfl ?_
      exact ez_eq (l2 := [(2, .int (nI (k + 1))), (0, .ref 112), (1, .int s)]) rfl rfl rfl rfl (ih () (fun p hp => by
        by_cases e : p = k
        · subst e; exact hinv2
        · exact hinv p (by omega)))
  · intro a hinv
    show ez_P _ _ _ _ _ _ 2 [(2, .int (nI T.c)), (0, .ref 112), (1, .int s)] [] (n, sl, kd, I, L, Rf) _
    refine ez_iload_n (i := 2) dX11_areApart_2 rfl rfl ?_
    refine ez_aload_n (i := 0) dX11_areApart_3 rfl rfl ?_
    refine ez_getI dX11_areApart_4 flX11_95 (hF.lt (by decide)) (hF.kc (by decide) rfl) ?_
    refine ez_topE (y := nI T.c) (hQ.M.c.trans (congrArg nI hT.2.2.2.2.1.symm)) ?_
    refine ez_icmp_ge (tgt := 89) dX11_areApart_7 (by decide) (fun c12 => ?_) (fun c12 => absurd (nI_le (Nat.le_refl _) (by omega)) c12)
    refine ez_iconst (v := 1) dX11_areApart_89 (by decide) ?_
    refine ez_iret dX11_areApart_90 rfl (by decide) ?_
    exact ⟨rfl, Or.inl ⟨hinv, rfl⟩⟩
def b_apart (T : zT) (k : Nat) (a : Int32) : Int32 := if z_bc (nI (k + 1)) ≤ z_bc a then a else if zapt T (nI (k + 1)) then nI (k + 1) else a
def a_apart (T : zT) : Nat → Int32
  | 0 => 0
  | k + 1 => b_apart T k (a_apart T k)
def s_apart (T : zT) : Int32 × zT := (z_bc (a_apart T (zN T)), T.w_rw [(a_apart T (zN T)).toInt64])
theorem y_X11_apart {n : Nat} {sl : Nat × Nat} {kd : Nat → Nat × Nat} {I : Nat → Nat → Int32} {L : Nat → Nat → Int64} {Rf : Nat → Nat → Option Nat} (d : Nat) {T : zT} {H : Nat} (hM : zM n kd I L Rf T) (hO : zOk H T) (hH : H ≤ 1000000000)  : zq mX11_apart (d + 400) [.ref 112] (n, sl, kd, I, L, Rf) (zpM n sl kd I L Rf (some (.int (s_apart T).1)) (s_apart T).2) := by
  have hF := hM.F; have hc7 := hO.c
  intro f B
  refine ez_meth pn_X.2.2.2.2.2.2.2.2.2.2.2 (Nat.le_of_ble_eq_true rfl) ?_
  have hN := zN_le hO.c
  show ez_P _ _ _ _ _ _ 0 [(0, .ref 112)] [] (n, sl, kd, I, L, Rf) _
  refine ez_aload_n (i := 0) dX11_apart_0 rfl rfl ?_
  refine ez_iconst (v := 0) dX11_apart_1 (by decide) ?_
  refine ez_pI dX11_apart_2 plX11_89 (hF.lt (by decide)) (hF.lx (by decide)) (hF.kc (by decide) rfl) rfl rfl ?_
  refine ez_nmI (fun I1 hI1 => ?_)
  have hQ2 : zQ n kd I L Rf I I1 L T (I 124) (I 112 25) := by rw [hI1]; exact zQ.start hM
  refine ez_iconst (v := 0) dX11_apart_5 (by decide) ?_
  refine ez_istore_n (l' := [(1, .int 0), (0, .ref 112)]) dX11_apart_6 rfl (by decide) rfl ?_
  refine ez_iconst (v := 1) dX11_apart_7 (by decide) ?_
  refine ez_istore_n (l' := [(2, .int 1), (1, .int 0), (0, .ref 112)]) dX11_apart_8 rfl (by decide) rfl ?_
  refine ez_eq (l2 := [(2, .int (nI (0 + 1))), (1, .int 0), (0, .ref 112)]) (σ2 := (n, sl, kd, I1, L, Rf)) rfl rfl rfl rfl ?_
  refine ez_for (zN T) (fun k (a : (Nat → Nat → Int32) × (Nat → Nat → Int64) × Int32 × Int32) => ([(2, .int (nI (k + 1))), (1, .int a.2.2.2), (0, .ref 112)], (n, sl, kd, a.1, a.2.1, Rf))) (fun k a => zQ n kd I L Rf I a.1 a.2.1 T (I 124) a.2.2.1 ∧ a.2.2.2 = a_apart T k) ?_ ?_ (zN T) 0 (I1, L, I 112 25, 0) (by omega) ⟨hQ2, rfl⟩
  · rintro k ⟨Ia, La, oa, bb⟩ hk ⟨hQ0, hac⟩ ih
    have hQ0 : zQ n kd I L Rf I Ia La T (I 124) oa := hQ0
    have hac : bb = a_apart T k := hac
    show ez_P _ _ _ _ _ _ 9 [(2, .int (nI (k + 1))), (1, .int bb), (0, .ref 112)] [] (n, sl, kd, Ia, La, Rf) _
    refine ez_iload_n (i := 2) dX11_apart_9 rfl rfl ?_
    refine ez_aload_n (i := 0) dX11_apart_10 rfl rfl ?_
    refine ez_callV (M1 := mX11_all) (rest := [.int (nI (k + 1))]) dX11_apart_11 mlX11_310 mvX11_all rfl (hF.lt (by decide)) (hF.kc (by decide) rfl) (Nat.le_of_ble_eq_true rfl) rfl (y_allT (I := Ia) (L := La) (d + 399) hF (T := T) hQ0.M.c) eb_rok ?_
    rintro _ _ ⟨rfl, rfl⟩
    show ez_P _ _ _ _ _ _ 14 [(2, .int (nI (k + 1))), (1, .int bb), (0, .ref 112)] (.int (zal T) :: [.int (nI (k + 1))]) _ _
    refine ez_icmp_gt (tgt := 48) dX11_apart_14 (by decide) (fun c3 => absurd c3 (Int32.not_lt.mpr (nI_le (by omega) (by omega)))) (fun c3 => ?_)
    refine ez_iload_n (i := 2) dX11_apart_17 rfl rfl ?_
    refine ez_callS (M1 := mJ6_bitCount_0f7a4) (rest := []) dX11_apart_18 mlX11_319 msJ6_bitCount_0f7a4 rfl (Nat.le_of_ble_eq_true rfl) rfl (zq_r (fun σ => q_J6_bitCount_0f7a4 (σ := σ) (d + 399) (nI (k + 1))) (n, sl, kd, Ia, La, Rf)) eb_rok ?_
    rintro _ _ ⟨rfl, rfl⟩
    show ez_P _ _ _ _ _ _ 21 [(2, .int (nI (k + 1))), (1, .int bb), (0, .ref 112)] (.int (z_bc (nI (k + 1))) :: []) _ _
    refine ez_iload_n (i := 1) dX11_apart_21 rfl rfl ?_
    refine ez_callS (M1 := mJ6_bitCount_0f7a4) (rest := [.int (z_bc (nI (k + 1)))]) dX11_apart_22 mlX11_319 msJ6_bitCount_0f7a4 rfl (Nat.le_of_ble_eq_true rfl) rfl (zq_r (fun σ => q_J6_bitCount_0f7a4 (σ := σ) (d + 399) bb) (n, sl, kd, Ia, La, Rf)) eb_rok ?_
    rintro _ _ ⟨rfl, rfl⟩
    show ez_P _ _ _ _ _ _ 25 [(2, .int (nI (k + 1))), (1, .int bb), (0, .ref 112)] (.int (z_bc bb) :: [.int (z_bc (nI (k + 1)))]) _ _
    refine ez_icmp_le (tgt := 40) dX11_apart_25 (by decide) (fun c4 => ?_) (fun c4 => ?_)
    · skip
      refine ez_iload_n (i := 1) dX11_apart_40 rfl rfl ?_
      refine ez_istore_n (l' := [(1, .int bb), (2, .int (nI (k + 1))), (0, .ref 112)]) dX11_apart_41 rfl (by decide) rfl ?_
      refine ez_iinc (v := (nI (k + 2))) (l' := [(2, .int ((nI (k + 2)))), (1, .int bb), (0, .ref 112)]) dX11_apart_42 rfl (nI_1 _) (by decide) rfl ?_
      refine ez_goto (tgt := 9) dX11_apart_45 (by decide) ?_
      exact ez_eq (l2 := [(2, .int (nI (k + 1 + 1))), (1, .int bb), (0, .ref 112)]) rfl rfl rfl rfl (ih (Ia, La, oa, bb) ⟨hQ0, (by rw [a_apart, ← hac, b_apart]; simp only [if_pos c4])⟩)
    · skip
      refine ez_aload_n (i := 0) dX11_apart_28 rfl rfl ?_
      refine ez_iload_n (i := 2) dX11_apart_29 rfl rfl ?_
      refine ez_callV (M1 := mX11_areApart) (rest := []) dX11_apart_30 mlX11_327 mvX11_areApart rfl (hF.lt (by decide)) (hF.kc (by decide) rfl) (Nat.le_of_ble_eq_true rfl) rfl (y_X11_areApart (T := T) (I := Ia) (L := La) (d + 49) hQ0 ⟨rfl, rfl, rfl, rfl, rfl, rfl⟩ hO hH (nI (k + 1))) eb_bok ?_
      rintro _ _ ⟨rfl, ⟨b5, rfl⟩ | ⟨b5, rfl⟩⟩
      · show ez_P _ _ _ _ _ _ 33 [(2, .int (nI (k + 1))), (1, .int bb), (0, .ref 112)] (.int 1 :: []) _ _
        refine ez_if_eq (tgt := 40) dX11_apart_33 (by decide) (fun c6 => absurd c6 (by decide)) (fun c6 => ?_)
        refine ez_iload_n (i := 2) dX11_apart_36 rfl rfl ?_
        refine ez_goto (tgt := 41) dX11_apart_37 (by decide) ?_
        refine ez_istore_n (l' := [(1, .int (nI (k + 1))), (2, .int (nI (k + 1))), (0, .ref 112)]) dX11_apart_41 rfl (by decide) rfl ?_
        refine ez_iinc (v := (nI (k + 2))) (l' := [(2, .int ((nI (k + 2)))), (1, .int (nI (k + 1))), (0, .ref 112)]) dX11_apart_42 rfl (nI_1 _) (by decide) rfl ?_
        refine ez_goto (tgt := 9) dX11_apart_45 (by decide) ?_
        exact ez_eq (l2 := [(2, .int (nI (k + 1 + 1))), (1, .int (nI (k + 1))), (0, .ref 112)]) rfl rfl rfl rfl (ih (Ia, La, oa, nI (k + 1)) ⟨hQ0, (by rw [a_apart, ← hac, b_apart]; simp only [if_neg c4, if_pos b5])⟩)
      · show ez_P _ _ _ _ _ _ 33 [(2, .int (nI (k + 1))), (1, .int bb), (0, .ref 112)] (.int 0 :: []) _ _
        refine ez_if_eq (tgt := 40) dX11_apart_33 (by decide) (fun c7 => ?_) (fun c7 => absurd (by decide) c7)
        refine ez_iload_n (i := 1) dX11_apart_40 rfl rfl ?_
        refine ez_istore_n (l' := [(1, .int bb), (2, .int (nI (k + 1))), (0, .ref 112)]) dX11_apart_41 rfl (by decide) rfl ?_
        refine ez_iinc (v := (nI (k + 2))) (l' := [(2, .int ((nI (k + 2)))), (1, .int bb), (0, .ref 112)]) dX11_apart_42 rfl (nI_1 _) (by decide) rfl ?_
        refine ez_goto (tgt := 9) dX11_apart_45 (by decide) ?_
        exact ez_eq (l2 := [(2, .int (nI (k + 1 + 1))), (1, .int bb), (0, .ref 112)]) rfl rfl rfl rfl (ih (Ia, La, oa, bb) ⟨hQ0, (by rw [a_apart, ← hac, b_apart]; simp only [if_neg c4, if_neg b5])⟩)
  · rintro ⟨Ia, La, oa, bb⟩ ⟨hQ0, hac⟩
    have hQ0 : zQ n kd I L Rf I Ia La T (I 124) oa := hQ0
    have hac : bb = a_apart T (zN T) := hac
    show ez_P _ _ _ _ _ _ 9 [(2, .int (nI ((zN T) + 1))), (1, .int bb), (0, .ref 112)] [] (n, sl, kd, Ia, La, Rf) _
    refine ez_iload_n (i := 2) dX11_apart_9 rfl rfl ?_
    refine ez_aload_n (i := 0) dX11_apart_10 rfl rfl ?_
    refine ez_callV (M1 := mX11_all) (rest := [.int (nI ((zN T) + 1))]) dX11_apart_11 mlX11_310 mvX11_all rfl (hF.lt (by decide)) (hF.kc (by decide) rfl) (Nat.le_of_ble_eq_true rfl) rfl (y_allT (I := Ia) (L := La) (d + 399) hF (T := T) hQ0.M.c) eb_rok ?_
    rintro _ _ ⟨rfl, rfl⟩
    show ez_P _ _ _ _ _ _ 14 [(2, .int (nI ((zN T) + 1))), (1, .int bb), (0, .ref 112)] (.int (zal T) :: [.int (nI ((zN T) + 1))]) _ _
    refine ez_icmp_gt (tgt := 48) dX11_apart_14 (by decide) (fun c8 => ?_) (fun c8 => absurd (nI_lt (by omega) (by omega)) c8)
    refine ez_aload_n (i := 0) dX11_apart_48 rfl rfl ?_
    refine ez_iconst (v := 0) dX11_apart_49 (by decide) ?_
    refine ez_pI dX11_apart_50 plX11_92 (hF.lt (by decide)) (hF.lx (by decide)) (hF.kc (by decide) rfl) rfl rfl ?_
    refine ez_nmI (fun I9 hI9 => ?_)
    have hQ10 : zQ n kd I L Rf I I9 La (T.w_rw []) (I 124) oa := by rw [hI9]; exact hQ0.row0
    refine ez_aload_n (i := 0) dX11_apart_53 rfl rfl ?_
    refine ez_iload_n (i := 1) dX11_apart_54 rfl rfl ?_
    refine ez_i2l dX11_apart_55 rfl ?_
    refine ez_callV (M1 := mX11_tell) (rest := []) dX11_apart_56 mlX11_252 mvX11_tell rfl (hF.lt (by decide)) (hF.kc (by decide) rfl) (Nat.le_of_ble_eq_true rfl) rfl (y_X11_tell (I := I9) (L := La) (d + 399) hF (k := 0) hQ10.M.rw.1 (by decide) bb.toInt64) (eb_vok rfl) ?_
    rintro _ _ ⟨rfl, rfl⟩
    refine ez_nmI (fun I11 hI11 => ?_)
    refine ez_nmL (fun L12 hL12 => ?_)
    show ez_P _ _ _ _ _ _ 59 [(2, .int (nI ((zN T) + 1))), (1, .int bb), (0, .ref 112)] [] (n, sl, kd, I11, L12, Rf) _
    have hQ13 : zQ n kd I L Rf I I11 L12 (T.w_rw [bb.toInt64]) (I 124) oa := by rw [hI11, hL12]; exact hQ10.tell bb.toInt64
    refine ez_iload_n (i := 1) dX11_apart_59 rfl rfl ?_
    refine ez_callS (M1 := mJ6_bitCount_0f7a4) (rest := []) dX11_apart_60 mlX11_319 msJ6_bitCount_0f7a4 rfl (Nat.le_of_ble_eq_true rfl) rfl (zq_r (fun σ => q_J6_bitCount_0f7a4 (σ := σ) (d + 399) bb) (n, sl, kd, I11, L12, Rf)) eb_rok ?_
    rintro _ _ ⟨rfl, rfl⟩
    show ez_P _ _ _ _ _ _ 63 [(2, .int (nI ((zN T) + 1))), (1, .int bb), (0, .ref 112)] (.int (z_bc bb) :: []) _ _
    refine ez_iret dX11_apart_63 rfl rfl ?_
    rw [show s_apart T = (z_bc bb, T.w_rw [bb.toInt64]) from by unfold s_apart; rw [← hac]]
    exact hQ13.end
def b_moment (T : zT) (k : Nat) (a : Int32 × Int32) : Int32 × Int32 := (a.1 + (if 0 < zwt T T.x k * T.x (14 + k) then zwt T T.x k * T.x (14 + k) else 0), a.2 + (if 0 < -(zwt T T.x k * T.x (14 + k)) then -(zwt T T.x k * T.x (14 + k)) else 0))
def a_moment (T : zT) : Nat → Int32 × Int32
  | 0 => (0, 0)
  | k + 1 => b_moment T k (a_moment T k)
def s_moment (T : zT) : Int32 × zT := (1000 + (zst T T.x + 2 * zhw T T.x * T.x 21), T.w_rw [(100 + zpl T T.x).toInt64, (a_moment T T.c).1.toInt64, (a_moment T T.c).2.toInt64])
theorem y_X11_moment {n : Nat} {sl : Nat × Nat} {kd : Nat → Nat × Nat} {I : Nat → Nat → Int32} {L : Nat → Nat → Int64} {Rf : Nat → Nat → Option Nat} (d : Nat) {T : zT} {H : Nat} (hM : zM n kd I L Rf T) (hO : zOk H T) (hH : H ≤ 1000000000)  : zq mX11_moment (d + 400) [.ref 112] (n, sl, kd, I, L, Rf) (zpM n sl kd I L Rf (some (.int (s_moment T).1)) (s_moment T).2) := by
  have hF := hM.F; have hc7 := hO.c
  intro f B
  refine ez_meth pn_X.2.2.2.2.2.2.2.2.2.2.2 (Nat.le_of_ble_eq_true rfl) ?_
  show ez_P _ _ _ _ _ _ 0 [(0, .ref 112)] [] (n, sl, kd, I, L, Rf) _
  refine ez_aload_n (i := 0) dX11_moment_0 rfl rfl ?_
  refine ez_iconst (v := 0) dX11_moment_1 (by decide) ?_
  refine ez_pI dX11_moment_2 plX11_89 (hF.lt (by decide)) (hF.lx (by decide)) (hF.kc (by decide) rfl) rfl rfl ?_
  refine ez_nmI (fun I1 hI1 => ?_)
  have hQ2 : zQ n kd I L Rf I I1 L T (I 124) (I 112 25) := by rw [hI1]; exact zQ.start hM
  refine ez_iconst (v := 0) dX11_moment_5 (by decide) ?_
  refine ez_istore_n (l' := [(1, .int 0), (0, .ref 112)]) dX11_moment_6 rfl (by decide) rfl ?_
  refine ez_iconst (v := 0) dX11_moment_7 (by decide) ?_
  refine ez_istore_n (l' := [(2, .int 0), (1, .int 0), (0, .ref 112)]) dX11_moment_8 rfl (by decide) rfl ?_
  refine ez_iconst (v := 0) dX11_moment_9 (by decide) ?_
  refine ez_istore_n (l' := [(3, .int 0), (2, .int 0), (1, .int 0), (0, .ref 112)]) dX11_moment_10 rfl (by decide) rfl ?_
  refine ez_eq (l2 := [(3, .int (nI 0)), (2, .int 0), (1, .int 0), (0, .ref 112)]) (σ2 := (n, sl, kd, I1, L, Rf)) rfl rfl rfl rfl ?_
  refine ez_for T.c (fun k (a : (Nat → Nat → Int32) × (Nat → Nat → Int64) × Int32 × Int32 × Int32) => ([(3, .int (nI k)), (2, .int a.2.2.2.2), (1, .int a.2.2.2.1), (0, .ref 112)], (n, sl, kd, a.1, a.2.1, Rf))) (fun k a => zQ n kd I L Rf I a.1 a.2.1 T (I 124) a.2.2.1 ∧ (a.2.2.2.1, a.2.2.2.2) = a_moment T k) ?_ ?_ T.c 0 (I1, L, I 112 25, 0, 0) (by omega) ⟨hQ2, rfl⟩
  · rintro k ⟨Ia, La, oa, ri, le⟩ hk ⟨hQ0, hac⟩ ih
    have hQ0 : zQ n kd I L Rf I Ia La T (I 124) oa := hQ0
    have hac : (ri, le) = a_moment T k := hac
    show ez_P _ _ _ _ _ _ 11 [(3, .int (nI k)), (2, .int le), (1, .int ri), (0, .ref 112)] [] (n, sl, kd, Ia, La, Rf) _
    refine ez_iload_n (i := 3) dX11_moment_11 rfl rfl ?_
    refine ez_aload_n (i := 0) dX11_moment_12 rfl rfl ?_
    refine ez_getI dX11_moment_13 flX11_95 (hF.lt (by decide)) (hF.kc (by decide) rfl) ?_
    refine ez_topE (y := nI T.c) hQ0.M.c ?_
    refine ez_icmp_ge (tgt := 65) dX11_moment_16 (by decide) (fun c3 => absurd c3 (nI_ge hk (by omega))) (fun c3 => ?_)
    refine ez_aload_n (i := 0) dX11_moment_19 rfl rfl ?_
    refine ez_aload_n (i := 0) dX11_moment_20 rfl rfl ?_
    refine ez_getR dX11_moment_21 flX11_9 (hF.lt (by decide)) (hF.kc (by decide) rfl) (hF.pt 107 rfl) ?_
    refine ez_iload_n (i := 3) dX11_moment_24 rfl rfl ?_
    refine ez_callV (M1 := mX11_weightOf) (rest := []) dX11_moment_25 mlX11_204 mvX11_weightOf rfl (hF.lt (by decide)) (hF.kc (by decide) rfl) (Nat.le_of_ble_eq_true rfl) rfl (y_wt (I := Ia) (L := La) (d + 93) hQ0.M.W hc7 (Or.inl rfl) hQ0.M.x hO.x (by omega) (by omega)) eb_rok ?_
    rintro _ _ ⟨rfl, rfl⟩
    show ez_P _ _ _ _ _ _ 28 [(3, .int (nI k)), (2, .int le), (1, .int ri), (0, .ref 112)] (.int (zwt T T.x k) :: []) _ _
    refine ez_aload_n (i := 0) dX11_moment_28 rfl rfl ?_
    refine ez_getR dX11_moment_29 flX11_9 (hF.lt (by decide)) (hF.kc (by decide) rfl) (hF.pt 107 rfl) ?_
    refine ez_bipush (v := 14) dX11_moment_32 (by decide) ?_
    refine ez_iload_n (i := 3) dX11_moment_34 rfl rfl ?_
    refine ez_iadd dX11_moment_35 ?_
    refine ez_topE (y := nI (14 + k)) (nI_add _ _) ?_
    refine ez_iaN (k := (14 + k)) dX11_moment_36 (hF.lt (by decide)) (hF.ka (by decide) rfl) (by omega) (by decide) ?_
    refine ez_topE (y := T.x (14 + k)) (hQ0.M.x _ (by omega)) ?_
    refine ez_imul dX11_moment_37 ?_
    refine ez_istore (l' := [(4, .int ((zwt T T.x k) * (T.x (14 + k)))), (3, .int (nI k)), (2, .int le), (1, .int ri), (0, .ref 112)]) dX11_moment_38 (by decide) rfl ?_
    refine ez_iload_n (i := 1) dX11_moment_40 rfl rfl ?_
    refine ez_iconst (v := 0) dX11_moment_41 (by decide) ?_
    refine ez_iload (i := 4) dX11_moment_42 rfl ?_
    refine ez_max dX11_moment_44 xmX11_201 (Nat.le_of_ble_eq_true rfl) ?_
    refine ez_iadd dX11_moment_47 ?_
    refine ez_istore_n (l' := [(1, .int (ri + (if 0 < (zwt T T.x k) * (T.x (14 + k)) then (zwt T T.x k) * (T.x (14 + k)) else 0))), (4, .int ((zwt T T.x k) * (T.x (14 + k)))), (3, .int (nI k)), (2, .int le), (0, .ref 112)]) dX11_moment_48 rfl (by decide) rfl ?_
    refine ez_iload_n (i := 2) dX11_moment_49 rfl rfl ?_
    refine ez_iconst (v := 0) dX11_moment_50 (by decide) ?_
    refine ez_iload (i := 4) dX11_moment_51 rfl ?_
    refine ez_ineg dX11_moment_53 ?_
    refine ez_max dX11_moment_54 xmX11_201 (Nat.le_of_ble_eq_true rfl) ?_
    refine ez_iadd dX11_moment_57 ?_
    refine ez_istore_n (l' := [(2, .int (le + (if 0 < -((zwt T T.x k) * (T.x (14 + k))) then -((zwt T T.x k) * (T.x (14 + k))) else 0))), (1, .int (ri + (if 0 < (zwt T T.x k) * (T.x (14 + k)) then (zwt T T.x k) * (T.x (14 + k)) else 0))), (4, .int ((zwt T T.x k) * (T.x (14 + k)))), (3, .int (nI k)), (0, .ref 112)]) dX11_moment_58 rfl (by decide) rfl ?_
    refine ez_iinc (v := (nI (k + 1))) (l' := [(3, .int ((nI (k + 1)))), (2, .int (le + (if 0 < -((zwt T T.x k) * (T.x (14 + k))) then -((zwt T T.x k) * (T.x (14 + k))) else 0))), (1, .int (ri + (if 0 < (zwt T T.x k) * (T.x (14 + k)) then (zwt T T.x k) * (T.x (14 + k)) else 0))), (4, .int ((zwt T T.x k) * (T.x (14 + k)))), (0, .ref 112)]) dX11_moment_59 rfl (nI_1 _) (by decide) rfl ?_
    refine ez_goto (tgt := 11) dX11_moment_62 (by decide) ?_
    refine ez_sub (l' := [(3, .int ((nI (k + 1)))), (2, .int (le + (if 0 < -((zwt T T.x k) * (T.x (14 + k))) then -((zwt T T.x k) * (T.x (14 + k))) else 0))), (1, .int (ri + (if 0 < (zwt T T.x k) * (T.x (14 + k)) then (zwt T T.x k) * (T.x (14 + k)) else 0))), (0, .ref 112)]) [0, 1, 2, 4] rfl ?_
    exact ez_eq (l2 := [(3, .int (nI (k + 1))), (2, .int (le + (if 0 < -((zwt T T.x k) * (T.x (14 + k))) then -((zwt T T.x k) * (T.x (14 + k))) else 0))), (1, .int (ri + (if 0 < (zwt T T.x k) * (T.x (14 + k)) then (zwt T T.x k) * (T.x (14 + k)) else 0))), (0, .ref 112)]) rfl rfl rfl rfl (ih (Ia, La, oa, ri + (if 0 < (zwt T T.x k) * (T.x (14 + k)) then (zwt T T.x k) * (T.x (14 + k)) else 0), le + (if 0 < -((zwt T T.x k) * (T.x (14 + k))) then -((zwt T T.x k) * (T.x (14 + k))) else 0)) ⟨hQ0, (by rw [a_moment, ← hac, b_moment])⟩)
  · rintro ⟨Ia, La, oa, ri, le⟩ ⟨hQ0, hac⟩
    have hQ0 : zQ n kd I L Rf I Ia La T (I 124) oa := hQ0
    have hac : (ri, le) = a_moment T T.c := hac
    show ez_P _ _ _ _ _ _ 11 [(3, .int (nI T.c)), (2, .int le), (1, .int ri), (0, .ref 112)] [] (n, sl, kd, Ia, La, Rf) _
    refine ez_iload_n (i := 3) dX11_moment_11 rfl rfl ?_
    refine ez_aload_n (i := 0) dX11_moment_12 rfl rfl ?_
    refine ez_getI dX11_moment_13 flX11_95 (hF.lt (by decide)) (hF.kc (by decide) rfl) ?_
    refine ez_topE (y := nI T.c) hQ0.M.c ?_
    refine ez_icmp_ge (tgt := 65) dX11_moment_16 (by decide) (fun c4 => ?_) (fun c4 => absurd (nI_le (Nat.le_refl _) (by omega)) c4)
    refine ez_aload_n (i := 0) dX11_moment_65 rfl rfl ?_
    refine ez_iconst (v := 0) dX11_moment_66 (by decide) ?_
    refine ez_pI dX11_moment_67 plX11_92 (hF.lt (by decide)) (hF.lx (by decide)) (hF.kc (by decide) rfl) rfl rfl ?_
    refine ez_nmI (fun I5 hI5 => ?_)
    have hQ6 : zQ n kd I L Rf I I5 La (T.w_rw []) (I 124) oa := by rw [hI5]; exact hQ0.row0
    refine ez_aload_n (i := 0) dX11_moment_70 rfl rfl ?_
    refine ez_bipush (v := 100) dX11_moment_71 (by decide) ?_
    refine ez_aload_n (i := 0) dX11_moment_73 rfl rfl ?_
    refine ez_aload_n (i := 0) dX11_moment_74 rfl rfl ?_
    refine ez_getR dX11_moment_75 flX11_9 (hF.lt (by decide)) (hF.kc (by decide) rfl) (hF.pt 107 rfl) ?_
    refine ez_callV (M1 := mX11_pullOf) (rest := [.int 100, .ref 112]) dX11_moment_78 mlX11_277 mvX11_pullOf rfl (hF.lt (by decide)) (hF.kc (by decide) rfl) (Nat.le_of_ble_eq_true rfl) rfl (y_pl (I := I5) (L := La) (d + 90) (hQ6.M.W.to (T1 := T) rfl rfl rfl rfl rfl) hc7 (Or.inl rfl) hQ6.M.x hO.x (by omega) hO.wm) eb_rok ?_
    rintro _ _ ⟨rfl, rfl⟩
    show ez_P _ _ _ _ _ _ 81 [(3, .int (nI T.c)), (2, .int le), (1, .int ri), (0, .ref 112)] (.int (zpl T T.x) :: [.int 100, .ref 112]) _ _
    refine ez_iadd dX11_moment_81 ?_
    refine ez_i2l dX11_moment_82 rfl ?_
    refine ez_callV (M1 := mX11_tell) (rest := []) dX11_moment_83 mlX11_252 mvX11_tell rfl (hF.lt (by decide)) (hF.kc (by decide) rfl) (Nat.le_of_ble_eq_true rfl) rfl (y_X11_tell (I := I5) (L := La) (d + 399) hF (k := 0) hQ6.M.rw.1 (by decide) ((100 + (zpl T T.x)).toInt64)) (eb_vok rfl) ?_
    rintro _ _ ⟨rfl, rfl⟩
    refine ez_nmI (fun I7 hI7 => ?_)
    refine ez_nmL (fun L8 hL8 => ?_)
    show ez_P _ _ _ _ _ _ 86 [(3, .int (nI T.c)), (2, .int le), (1, .int ri), (0, .ref 112)] [] (n, sl, kd, I7, L8, Rf) _
    have hQ9 : zQ n kd I L Rf I I7 L8 (T.w_rw [(100 + (zpl T T.x)).toInt64]) (I 124) oa := by rw [hI7, hL8]; exact hQ6.tell ((100 + (zpl T T.x)).toInt64)
    refine ez_aload_n (i := 0) dX11_moment_86 rfl rfl ?_
    refine ez_iload_n (i := 1) dX11_moment_87 rfl rfl ?_
    refine ez_i2l dX11_moment_88 rfl ?_
    refine ez_callV (M1 := mX11_tell) (rest := []) dX11_moment_89 mlX11_252 mvX11_tell rfl (hF.lt (by decide)) (hF.kc (by decide) rfl) (Nat.le_of_ble_eq_true rfl) rfl (y_X11_tell (I := I7) (L := L8) (d + 399) hF (k := 1) hQ9.M.rw.1 (by decide) ri.toInt64) (eb_vok rfl) ?_
    rintro _ _ ⟨rfl, rfl⟩
    refine ez_nmI (fun I10 hI10 => ?_)
    refine ez_nmL (fun L11 hL11 => ?_)
    show ez_P _ _ _ _ _ _ 92 [(3, .int (nI T.c)), (2, .int le), (1, .int ri), (0, .ref 112)] [] (n, sl, kd, I10, L11, Rf) _
    have hQ12 : zQ n kd I L Rf I I10 L11 (T.w_rw [(100 + (zpl T T.x)).toInt64, ri.toInt64]) (I 124) oa := by rw [hI10, hL11]; exact hQ9.tell ri.toInt64
    refine ez_aload_n (i := 0) dX11_moment_92 rfl rfl ?_
    refine ez_iload_n (i := 2) dX11_moment_93 rfl rfl ?_
    refine ez_i2l dX11_moment_94 rfl ?_
    refine ez_callV (M1 := mX11_tell) (rest := []) dX11_moment_95 mlX11_252 mvX11_tell rfl (hF.lt (by decide)) (hF.kc (by decide) rfl) (Nat.le_of_ble_eq_true rfl) rfl (y_X11_tell (I := I10) (L := L11) (d + 399) hF (k := 2) hQ12.M.rw.1 (by decide) le.toInt64) (eb_vok rfl) ?_
    rintro _ _ ⟨rfl, rfl⟩
    refine ez_nmI (fun I13 hI13 => ?_)
    refine ez_nmL (fun L14 hL14 => ?_)
    show ez_P _ _ _ _ _ _ 98 [(3, .int (nI T.c)), (2, .int le), (1, .int ri), (0, .ref 112)] [] (n, sl, kd, I13, L14, Rf) _
    have hQ15 : zQ n kd I L Rf I I13 L14 (T.w_rw [(100 + (zpl T T.x)).toInt64, ri.toInt64, le.toInt64]) (I 124) oa := by rw [hI13, hL14]; exact hQ12.tell le.toInt64
    refine ez_sipush (v := 1000) dX11_moment_98 (by decide) ?_
    refine ez_aload_n (i := 0) dX11_moment_101 rfl rfl ?_
    refine ez_aload_n (i := 0) dX11_moment_102 rfl rfl ?_
    refine ez_getR dX11_moment_103 flX11_9 (hF.lt (by decide)) (hF.kc (by decide) rfl) (hF.pt 107 rfl) ?_
    refine ez_aload_n (i := 0) dX11_moment_106 rfl rfl ?_
    refine ez_aload_n (i := 0) dX11_moment_107 rfl rfl ?_
    refine ez_getR dX11_moment_108 flX11_9 (hF.lt (by decide)) (hF.kc (by decide) rfl) (hF.pt 107 rfl) ?_
    refine ez_callV (M1 := mX11_windOf) (rest := [.ref 113, .ref 112, .int 1000]) dX11_moment_111 mlX11_211 mvX11_windOf rfl (hF.lt (by decide)) (hF.kc (by decide) rfl) (Nat.le_of_ble_eq_true rfl) rfl (y_wind (I := I13) (L := L14) (d + 399) (hQ15.M.W.to (T1 := T) rfl rfl rfl rfl rfl) hc7 (Or.inl rfl) hQ15.M.x hO.x (by omega) hO.wm) eb_rok ?_
    rintro _ _ ⟨rfl, rfl⟩
    show ez_P _ _ _ _ _ _ 114 [(3, .int (nI T.c)), (2, .int le), (1, .int ri), (0, .ref 112)] (.int (zhw T T.x) :: [.ref 113, .ref 112, .int 1000]) _ _
    refine ez_callV (M1 := mX11_momentOf) (rest := [.int 1000]) dX11_moment_114 mlX11_215 mvX11_momentOf rfl (hF.lt (by decide)) (hF.kc (by decide) rfl) (Nat.le_of_ble_eq_true rfl) rfl (y_mo (I := I13) (L := L14) (d + 91) (hQ15.M.W.to (T1 := T) rfl rfl rfl rfl rfl) hc7 (Or.inl rfl) hQ15.M.x hO.x (by omega) (zhw T T.x)) eb_rok ?_
    rintro _ _ ⟨rfl, rfl⟩
    show ez_P _ _ _ _ _ _ 117 [(3, .int (nI T.c)), (2, .int le), (1, .int ri), (0, .ref 112)] (.int (zst T T.x + 2 * (zhw T T.x) * T.x 21) :: [.int 1000]) _ _
    refine ez_iadd dX11_moment_117 ?_
    refine ez_iret dX11_moment_118 rfl rfl ?_
    rw [show s_moment T = (1000 + (zst T T.x + 2 * zhw T T.x * T.x 21), T.w_rw [(100 + zpl T T.x).toInt64, ri.toInt64, le.toInt64]) from by unfold s_moment; rw [← hac]]
    exact hQ15.end
