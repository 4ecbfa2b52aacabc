/-! the class: swaps, line, apart -/
def zpK (n : Nat) (sl : Nat × Nat) (kd : Nat → Nat × Nat) (I0 : Nat → Nat → Int32) (L0 : Nat → Nat → Int64) (R0 : Nat → Nat → Option Nat) (g : Nat → Nat → Int32) (L : Nat → Nat → Int64) (Rf : Nat → Nat → Option Nat) (T : zT) (G Bf : Option (Nat → Int32)) (w : Bool) (v : Option Value) : Option Value → eb_S → Prop := fun r τ => r = v ∧ ∃ I1, τ = (n, sl, kd, I1, L, Rf) ∧ zK n kd I0 L0 R0 g I1 L Rf T G Bf w
theorem zpK_ok {n : Nat} {sl : Nat × Nat} {kd : Nat → Nat × Nat} {I0 g : Nat → Nat → Int32} {L0 L : Nat → Nat → Int64} {R0 Rf : Nat → Nat → Option Nat} {T : zT} {G Bf : Option (Nat → Int32)} {w : Bool} {v : Option Value} {l : List (Nat × Value)} {rest : List Value} : ∀ r1 σ1, zpK n sl kd I0 L0 R0 g L Rf T G Bf w v r1 σ1 → σ1.1 = n ∨ ((∀ q ∈ l, eb_okv n q.2) ∧ ∀ v ∈ rest, eb_okv n v) := fun _ _ h => Or.inl (by obtain ⟨_, I1, h, _⟩ := h; rw [h])
theorem zsp_up {T : zT} {p q : Nat} {u v : Int32} (hp : p < 7) (hq : q < 7) : z_pull (zst T (zup (zup T.x (14 + p) u) (14 + q) v)) (zhw T T.x) (T.x 21) = zpl T (zup (zup T.x (14 + p) u) (14 + q) v) := by
  unfold zpl zhw
  rw [zup_ne (q := 25) (by omega), zup_ne (q := 25) (by omega), zup_ne (q := 21) (by omega), zup_ne (q := 21) (by omega)]
theorem zup4 {x : Nat → Int32} {p q : Nat} {u v : Int32} (h : p ≠ q) : x = zup (zup (zup (zup x (14 + p) u) (14 + q) v) (14 + p) (x (14 + p))) (14 + q) (x (14 + q)) := by
  funext k
  simp only [zup]
  by_cases h1 : k = 14 + q
  · rw [if_pos h1, h1]
  · rw [if_neg h1]
    by_cases h2 : k = 14 + p
    · rw [if_pos h2, h2]
    · rw [if_neg h2, if_neg h1, if_neg h2]
theorem k_pis {n : Nat} {sl : Nat × Nat} {kd : Nat → Nat × Nat} {I : Nat → Nat → Int32} {L : Nat → Nat → Int64} {Rf : Nat → Nat → Option Nat} (d : Nat) {T : zT} {H : Nat} {I0 g : Nat → Nat → Int32} {L0 : Nat → Nat → Int64} {R0 : Nat → Nat → Option Nat} {Bf : Option (Nat → Int32)} {w : Bool} (hK : zK n kd I0 L0 R0 g I L Rf T (some T.x) Bf w) (hO : zOk H T) (hH : H ≤ 1000000000) {p0 q0 : Nat} (hp : p0 < T.c) (hq : q0 < T.c) (hne : p0 ≠ q0) (f : Nat) (B : Nat → Int32) : ez_Q (f + 1) B f (fun _ => True) mX10_pullIfSwapped (d + 30) [.ref 0, .int (nI p0), .int (nI q0)] (n, sl, kd, I, L, Rf) (zpK n sl kd I0 L0 R0 g L Rf T (some T.x) Bf w (some (.int (zsp T p0 q0)))) := by
  have hC := hK.C; have hF := hC.F; have hc7 := hO.c
  refine ez_meth pn_X.2.2.2.2.2.2.2.2.2.2.1 (Nat.le_of_ble_eq_true rfl) ?_
  show ez_P _ _ _ _ _ _ 0 [(0, .ref 0), (1, .int (nI p0)), (2, .int (nI q0))] [] (n, sl, kd, I, L, Rf) _
  refine ez_aload_n (i := 0) dX10_pullIfSwapped_0 rfl rfl ?_
  refine ez_getR dX10_pullIfSwapped_1 flX10_37 (hF.lt (by decide)) (hF.kc (by decide) rfl) (hF.pt 25 rfl) ?_
  refine ez_getR dX10_pullIfSwapped_4 flX10_171 (hF.lt (by decide)) (hF.kc (by decide) rfl) (hF.pt 24 rfl) ?_
  refine ez_iload_n (i := 1) dX10_pullIfSwapped_7 rfl rfl ?_
  refine ez_aload_n (i := 0) dX10_pullIfSwapped_8 rfl rfl ?_
  refine ez_getR dX10_pullIfSwapped_9 flX10_33 (hF.lt (by decide)) (hF.kc (by decide) rfl) (hF.pt 21 rfl) ?_
  refine ez_getR dX10_pullIfSwapped_12 flX10_171 (hF.lt (by decide)) (hF.kc (by decide) rfl) (hF.pt 20 rfl) ?_
  refine ez_iload_n (i := 2) dX10_pullIfSwapped_15 rfl rfl ?_
  refine ez_iaN (k := q0) dX10_pullIfSwapped_16 (hF.lt (by decide)) (hF.ka (by decide) rfl) (by omega) (by decide) ?_
  refine ez_topE (y := T.x (14 + q0)) (hK.C.sh.p _ (by omega)) ?_
  refine ez_isN (k := p0) dX10_pullIfSwapped_17 (hF.lt (by decide)) (hF.lx (by decide)) (hF.ka (by decide) rfl) (by omega) (by decide) ?_
  refine ez_nmI (fun I1 hI1 => ?_)
  have hK2 : zK n kd I0 L0 R0 g I1 L Rf T (some (zup T.x (14 + p0) (T.x (14 + q0)))) Bf w := by rw [hI1]; exact hK.pla hc7 (by omega)
  refine ez_aload_n (i := 0) dX10_pullIfSwapped_18 rfl rfl ?_
  refine ez_getR dX10_pullIfSwapped_19 flX10_37 (hF.lt (by decide)) (hF.kc (by decide) rfl) (hF.pt 25 rfl) ?_
  refine ez_getR dX10_pullIfSwapped_22 flX10_171 (hF.lt (by decide)) (hF.kc (by decide) rfl) (hF.pt 24 rfl) ?_
  refine ez_iload_n (i := 2) dX10_pullIfSwapped_25 rfl rfl ?_
  refine ez_aload_n (i := 0) dX10_pullIfSwapped_26 rfl rfl ?_
  refine ez_getR dX10_pullIfSwapped_27 flX10_33 (hF.lt (by decide)) (hF.kc (by decide) rfl) (hF.pt 21 rfl) ?_
  refine ez_getR dX10_pullIfSwapped_30 flX10_171 (hF.lt (by decide)) (hF.kc (by decide) rfl) (hF.pt 20 rfl) ?_
  refine ez_iload_n (i := 1) dX10_pullIfSwapped_33 rfl rfl ?_
  refine ez_iaN (k := p0) dX10_pullIfSwapped_34 (hF.lt (by decide)) (hF.ka (by decide) rfl) (by omega) (by decide) ?_
  refine ez_topE (y := T.x (14 + p0)) (hK2.C.sh.p _ (by omega)) ?_
  refine ez_isN (k := q0) dX10_pullIfSwapped_35 (hF.lt (by decide)) (hF.lx (by decide)) (hF.ka (by decide) rfl) (by omega) (by decide) ?_
  refine ez_nmI (fun I3 hI3 => ?_)
  have hK4 : zK n kd I0 L0 R0 g I3 L Rf T (some (zup (zup T.x (14 + p0) (T.x (14 + q0))) (14 + q0) (T.x (14 + p0)))) Bf w := by rw [hI3]; exact hK2.pla hc7 (by omega)
  refine ez_aload_n (i := 0) dX10_pullIfSwapped_36 rfl rfl ?_
  refine ez_aload_n (i := 0) dX10_pullIfSwapped_37 rfl rfl ?_
  refine ez_getR dX10_pullIfSwapped_38 flX10_26 (hF.lt (by decide)) (hF.kc (by decide) rfl) (hF.pt 4 rfl) ?_
  refine ez_aload_n (i := 0) dX10_pullIfSwapped_41 rfl rfl ?_
  refine ez_getR dX10_pullIfSwapped_42 flX10_37 (hF.lt (by decide)) (hF.kc (by decide) rfl) (hF.pt 25 rfl) ?_
  refine ez_callVm (M1 := mX6_ballast) (rest := [.ref 0]) dX10_pullIfSwapped_45 mlX10_290 mvX6_ballast rfl (hF.lt (by decide)) (hF.kc (by decide) rfl) (Nat.le_of_ble_eq_true rfl) rfl (k_ballast (T := T) (I := I3) (L := L) (d + 24) hK4.C hO (j := 25) (by decide) (hK4.gs _ rfl) ((hO.x.pla hO.c (b := p0) (by omega) (hO.x.p q0 hq)).pla hO.c (b := q0) (by omega) (hO.x.p p0 hp)) (by omega) (f + 0) _) eb_rok ?_
  rintro _ _ C5 _ ⟨rfl, rfl⟩
  show ez_P _ _ _ _ _ _ 48 [(0, .ref 0), (1, .int (nI p0)), (2, .int (nI q0))] (.int (zst T (zup (zup T.x (14 + p0) (T.x (14 + q0))) (14 + q0) (T.x (14 + p0)))) :: [.ref 0]) (n, sl, kd, I3, L, Rf) _
  refine ez_callV (M1 := mX10_pullByBallast) (rest := []) dX10_pullIfSwapped_48 mlX10_294 mvX10_pullByBallast rfl (hF.lt (by decide)) (hF.kc (by decide) rfl) (Nat.le_of_ble_eq_true rfl) rfl (k_pbb (T := T) (I := I3) (L := L) (d + 9) hK4.C hO hH (zst T (zup (zup T.x (14 + p0) (T.x (14 + q0))) (14 + q0) (T.x (14 + p0))))) eb_rok ?_
  rintro _ _ ⟨rfl, rfl⟩
  show ez_P _ _ _ _ _ _ 51 [(0, .ref 0), (1, .int (nI p0)), (2, .int (nI q0))] (.int (z_pull (zst T (zup (zup T.x (14 + p0) (T.x (14 + q0))) (14 + q0) (T.x (14 + p0)))) (zhw T T.x) (T.x 21)) :: []) _ _
  refine ez_topE (y := zsp T p0 q0) (zsp_up (by omega) (by omega)) ?_
  refine ez_istore_n (l' := [(3, .int (zsp T p0 q0)), (0, .ref 0), (1, .int (nI p0)), (2, .int (nI q0))]) dX10_pullIfSwapped_51 rfl (by decide) rfl ?_
  refine ez_aload_n (i := 0) dX10_pullIfSwapped_52 rfl rfl ?_
  refine ez_getR dX10_pullIfSwapped_53 flX10_37 (hF.lt (by decide)) (hF.kc (by decide) rfl) (hF.pt 25 rfl) ?_
  refine ez_getR dX10_pullIfSwapped_56 flX10_171 (hF.lt (by decide)) (hF.kc (by decide) rfl) (hF.pt 24 rfl) ?_
  refine ez_iload_n (i := 1) dX10_pullIfSwapped_59 rfl rfl ?_
  refine ez_aload_n (i := 0) dX10_pullIfSwapped_60 rfl rfl ?_
  refine ez_getR dX10_pullIfSwapped_61 flX10_33 (hF.lt (by decide)) (hF.kc (by decide) rfl) (hF.pt 21 rfl) ?_
  refine ez_getR dX10_pullIfSwapped_64 flX10_171 (hF.lt (by decide)) (hF.kc (by decide) rfl) (hF.pt 20 rfl) ?_
  refine ez_iload_n (i := 1) dX10_pullIfSwapped_67 rfl rfl ?_
  refine ez_iaN (k := p0) dX10_pullIfSwapped_68 (hF.lt (by decide)) (hF.ka (by decide) rfl) (by omega) (by decide) ?_
  refine ez_topE (y := T.x (14 + p0)) (hK4.C.sh.p _ (by omega)) ?_
  refine ez_isN (k := p0) dX10_pullIfSwapped_69 (hF.lt (by decide)) (hF.lx (by decide)) (hF.ka (by decide) rfl) (by omega) (by decide) ?_
  refine ez_nmI (fun I6 hI6 => ?_)
  have hK7 : zK n kd I0 L0 R0 g I6 L Rf T (some (zup (zup (zup T.x (14 + p0) (T.x (14 + q0))) (14 + q0) (T.x (14 + p0))) (14 + p0) (T.x (14 + p0)))) Bf w := by rw [hI6]; exact hK4.pla hc7 (by omega)
  refine ez_aload_n (i := 0) dX10_pullIfSwapped_70 rfl rfl ?_
  refine ez_getR dX10_pullIfSwapped_71 flX10_37 (hF.lt (by decide)) (hF.kc (by decide) rfl) (hF.pt 25 rfl) ?_
  refine ez_getR dX10_pullIfSwapped_74 flX10_171 (hF.lt (by decide)) (hF.kc (by decide) rfl) (hF.pt 24 rfl) ?_
  refine ez_iload_n (i := 2) dX10_pullIfSwapped_77 rfl rfl ?_
  refine ez_aload_n (i := 0) dX10_pullIfSwapped_78 rfl rfl ?_
  refine ez_getR dX10_pullIfSwapped_79 flX10_33 (hF.lt (by decide)) (hF.kc (by decide) rfl) (hF.pt 21 rfl) ?_
  refine ez_getR dX10_pullIfSwapped_82 flX10_171 (hF.lt (by decide)) (hF.kc (by decide) rfl) (hF.pt 20 rfl) ?_
  refine ez_iload_n (i := 2) dX10_pullIfSwapped_85 rfl rfl ?_
  refine ez_iaN (k := q0) dX10_pullIfSwapped_86 (hF.lt (by decide)) (hF.ka (by decide) rfl) (by omega) (by decide) ?_
  refine ez_topE (y := T.x (14 + q0)) (hK7.C.sh.p _ (by omega)) ?_
  refine ez_isN (k := q0) dX10_pullIfSwapped_87 (hF.lt (by decide)) (hF.lx (by decide)) (hF.ka (by decide) rfl) (by omega) (by decide) ?_
  refine ez_nmI (fun I8 hI8 => ?_)
  have hK9 : zK n kd I0 L0 R0 g I8 L Rf T (some (zup (zup (zup (zup T.x (14 + p0) (T.x (14 + q0))) (14 + q0) (T.x (14 + p0))) (14 + p0) (T.x (14 + p0))) (14 + q0) (T.x (14 + q0)))) Bf w := by rw [hI8]; exact hK7.pla hc7 (by omega)
  have hK10 : zK n kd I0 L0 R0 g I8 L Rf T (some T.x) Bf w := by rw [show T.x = zup (zup (zup (zup T.x (14 + p0) (T.x (14 + q0))) (14 + q0) (T.x (14 + p0))) (14 + p0) (T.x (14 + p0))) (14 + q0) (T.x (14 + q0)) from zup4 hne]; exact hK9
  refine ez_iload_n (i := 3) dX10_pullIfSwapped_88 rfl rfl ?_
  refine ez_iret dX10_pullIfSwapped_89 rfl rfl ?_
  exact ⟨rfl, _, rfl, hK10⟩
/-- a pair found: the reference's (code, how far) and the class's (code, pull) -/
def zs2 (T : zT) (a : Int32 × Int32) (ch ls : Int32) : Prop := ∃ p q, p < T.c ∧ q < T.c ∧ a.1 = nI (10 * p + q) ∧ ch = a.1 ∧ ls = zsp T p q ∧ a.2 = z_ab ls
theorem z_big_k : ∀ k, k < 41 → z_ab (nI k - 20) < 1000000 := by decide +kernel
theorem z_big {p : Int32} (h : z_rg p) : z_ab p < 1000000 := by obtain ⟨k, hk, rfl⟩ := h; exact z_big_k k hk
theorem zsp_rg (T : zT) (p q : Nat) : z_rg (zsp T p q) := z_pull_rg _ _ _
theorem zs2_no {T : zT} {a : Int32 × Int32} {ch ls v : Int32} {c : Int32 × Int32} {st : Prop} (hp : z_rg v) (h : (st ∧ a = (-1, 1000000) ∧ ls = 21) ∨ zs2 T a ch ls) (hle : z_ab ls ≤ z_ab v) : zs2 T (if z_ab v < a.2 then c else a) ch ls := by
  rcases h with ⟨_, _, h⟩ | h
  · rw [h] at hle; exact absurd hle (z_tr0 hp)
  · obtain ⟨p, q, h1, h2, h3, h4, h5, h6⟩ := h
    rw [if_neg (by rw [h6]; exact Int32.not_lt.mpr hle)]
    exact ⟨p, q, h1, h2, h3, h4, h5, h6⟩
theorem zs2_yes {T : zT} {a : Int32 × Int32} {ch ls : Int32} {p q : Nat} {st : Prop} (hp : p < T.c) (hq : q < T.c) (h : (st ∧ a = (-1, 1000000) ∧ ls = 21) ∨ zs2 T a ch ls) (hle : ¬ z_ab ls ≤ z_ab (zsp T p q)) : zs2 T (if z_ab (zsp T p q) < a.2 then (nI (10 * p + q), z_ab (zsp T p q)) else a) (nI (10 * p + q)) (zsp T p q) := by
  rw [if_pos (by rcases h with ⟨_, h, _⟩ | ⟨_, _, _, _, _, _, _, h6⟩; rw [h]; exact z_big (zsp_rg T p q); rw [h6]; exact Int32.not_le.mp hle)]
  exact ⟨p, q, hp, hq, rfl, rfl, rfl, rfl⟩
theorem c_swaps {n : Nat} {sl : Nat × Nat} {kd : Nat → Nat × Nat} {I : Nat → Nat → Int32} {L : Nat → Nat → Int64} {Rf : Nat → Nat → Option Nat} (d : Nat) {T : zT} {H : Nat} (hC : zC n kd I L Rf T) (hO : zOk H T) (hH : H ≤ 1000000000) (f : Nat) (B : Nat → Int32) : ez_Q (f + 100) B f (fun _ => True) mX10_swaps (d + 60) [.ref 0] (n, sl, kd, I, L, Rf) (zpC n sl kd I L Rf (some (.int (s_swaps T).1)) (s_swaps T).2) := by
  have hF := hC.F; have hc7 := hO.c
  have hK0 : zK n kd I L Rf I I L Rf T none none false := zK.start hC
  refine ez_meth pn_X.2.2.2.2.2.2.2.2.2.2.1 (Nat.le_of_ble_eq_true rfl) ?_
  show ez_P _ _ _ _ _ _ 0 [(0, .ref 0)] [] (n, sl, kd, I, L, Rf) _
  refine ez_aload_n (i := 0) dX10_swaps_0 rfl rfl ?_
  refine ez_getR dX10_swaps_1 flX10_33 (hF.lt (by decide)) (hF.kc (by decide) rfl) (hF.pt 21 rfl) ?_
  refine ez_getI dX10_swaps_4 flX10_126 (hF.lt (by decide)) (hF.kc (by decide) rfl) ?_
  refine ez_topE (y := nI T.c) hK0.C.sh.cr ?_
  refine ez_iconst (v := 2) dX10_swaps_7 (by decide) ?_
  refine ez_icmp_ge (tgt := 14) dX10_swaps_8 (by decide) (fun c1 => ?_) (fun c1 => ?_)
  · skip
    have hc2 : 2 ≤ T.c := Nat.le_of_not_lt (fun e => absurd (nI_lt (b := 2) e (by decide)) (Int32.not_lt.mpr c1))
    refine ez_aload_n (i := 0) dX10_swaps_14 rfl rfl ?_
    refine ez_getR dX10_swaps_15 flX10_37 (hF.lt (by decide)) (hF.kc (by decide) rfl) (hF.pt 25 rfl) ?_
    refine ez_aload_n (i := 0) dX10_swaps_18 rfl rfl ?_
    refine ez_getR dX10_swaps_19 flX10_33 (hF.lt (by decide)) (hF.kc (by decide) rfl) (hF.pt 21 rfl) ?_
    refine ez_callV (M1 := mX7_copy) (rest := []) dX10_swaps_22 mlX10_188 mvX7_copy rfl (hF.lt (by decide)) (hF.kc (by decide) rfl) (Nat.le_of_ble_eq_true rfl) rfl (y_X7_copy (I := I) (L := L) (d + 59) (i := 25) (j := 21) (hF.shp (by decide)) (by decide) (hF.shp (by decide)) (by decide) (by decide) hK0.C.sh.cr hO.c) (eb_vok rfl) ?_
    rintro _ _ ⟨rfl, rfl⟩
    refine ez_nmI (fun I2 hI2 => ?_)
    show ez_P _ _ _ _ _ _ 25 [(0, .ref 0)] [] (n, sl, kd, I2, L, Rf) _
    have hK3 : zK n kd I L Rf I I2 L Rf T (some T.x) none false := by rw [hI2]; exact hK0.cpg
    refine ez_iconst (v := 0) dX10_swaps_25 (by decide) ?_
    refine ez_istore_n (l' := [(1, .int 0), (0, .ref 0)]) dX10_swaps_26 rfl (by decide) rfl ?_
    refine ez_bipush (v := 21) dX10_swaps_27 (by decide) ?_
    refine ez_istore_n (l' := [(2, .int 21), (1, .int 0), (0, .ref 0)]) dX10_swaps_29 rfl (by decide) rfl ?_
    refine ez_iconst (v := 0) dX10_swaps_30 (by decide) ?_
    refine ez_istore_n (l' := [(3, .int 0), (2, .int 21), (1, .int 0), (0, .ref 0)]) dX10_swaps_31 rfl (by decide) rfl ?_
    refine ez_le (f' := f + (100 - 7 * 0)) (by omega) ?_
    refine ez_eq (l2 := [(3, .int (nI 0)), (2, .int 21), (1, .int 0), (0, .ref 0)]) (σ2 := (n, sl, kd, I2, L, Rf)) rfl rfl rfl rfl ?_
    refine ez_forB T.c (fun k => f + (100 - 7 * k)) (fun k (a : (Nat → Nat → Int32) × (Nat → Nat → Int64) × Int32 × Int32) => ([(3, .int (nI k)), (2, .int a.2.2.2), (1, .int a.2.2.1), (0, .ref 0)], (n, sl, kd, a.1, a.2.1, Rf))) (fun k _ a => zK n kd I L Rf I a.1 a.2.1 Rf T (some T.x) none false ∧ ((k = 0 ∧ a_swo T k = (-1, 1000000) ∧ a.2.2.2 = 21) ∨ zs2 T (a_swo T k) a.2.2.1 a.2.2.2)) ?_ ?_ T.c 0 _ (I2, L, 0, 21) (by omega) ⟨hK3, (Or.inl ⟨rfl, rfl, rfl⟩)⟩
    · rintro k Bm ⟨Ia, La, ch, ls⟩ hk ⟨hKl, hex⟩ ih
      have hKl : zK n kd I L Rf I Ia La Rf T (some T.x) none false := hKl
      have hex : ((k = 0 ∧ a_swo T k = (-1, 1000000) ∧ ls = 21) ∨ zs2 T (a_swo T k) ch ls) := hex
      show ez_P _ _ _ _ _ _ 32 [(3, .int (nI k)), (2, .int ls), (1, .int ch), (0, .ref 0)] [] (n, sl, kd, Ia, La, Rf) _
      refine ez_iload_n (i := 3) dX10_swaps_32 rfl rfl ?_
      refine ez_aload_n (i := 0) dX10_swaps_33 rfl rfl ?_
      refine ez_getR dX10_swaps_34 flX10_33 (hF.lt (by decide)) (hF.kc (by decide) rfl) (hF.pt 21 rfl) ?_
      refine ez_getI dX10_swaps_37 flX10_126 (hF.lt (by decide)) (hF.kc (by decide) rfl) ?_
      refine ez_topE (y := nI T.c) hKl.C.sh.cr ?_
      refine ez_icmp_ge (tgt := 104) dX10_swaps_40 (by decide) (fun c4 => absurd c4 (nI_ge hk (by omega))) (fun c4 => ?_)
      refine ez_iload_n (i := 3) dX10_swaps_43 rfl rfl ?_
      refine ez_iconst (v := 1) dX10_swaps_44 (by decide) ?_
      refine ez_iadd dX10_swaps_45 ?_
      refine ez_topE (y := nI (k + 1)) (nI_add _ _) ?_
      refine ez_istore (l' := [(4, .int (nI (k + 1))), (3, .int (nI k)), (2, .int ls), (1, .int ch), (0, .ref 0)]) dX10_swaps_46 (by decide) rfl ?_
      refine ez_sub (l' := [(4, .int (nI (k + 1))), (2, .int ls), (1, .int ch), (3, .int (nI k)), (0, .ref 0)]) [0, 2, 3, 1, 4] rfl ?_
      refine ez_le (f' := f + (100 - 7 * k - 0)) (by omega) ?_
      refine ez_eq (l2 := [(4, .int (nI (k + 1 + 0))), (2, .int ls), (1, .int ch), (3, .int (nI k)), (0, .ref 0)]) (σ2 := (n, sl, kd, Ia, La, Rf)) rfl rfl rfl rfl ?_
      refine ez_forB (T.c - (k + 1)) (fun j => f + (100 - 7 * k - j)) (fun j (a : (Nat → Nat → Int32) × (Nat → Nat → Int64) × Int32 × Int32) => ([(4, .int (nI (k + 1 + j))), (2, .int a.2.2.2), (1, .int a.2.2.1), (3, .int (nI k)), (0, .ref 0)], (n, sl, kd, a.1, a.2.1, Rf))) (fun j _ a => zK n kd I L Rf I a.1 a.2.1 Rf T (some T.x) none false ∧ (((k = 0 ∧ j = 0) ∧ a_swi T k (a_swo T k) j = (-1, 1000000) ∧ a.2.2.2 = 21) ∨ zs2 T (a_swi T k (a_swo T k) j) a.2.2.1 a.2.2.2)) ?_ ?_ (T.c - (k + 1)) 0 _ (Ia, La, ch, ls) (by omega) ⟨hKl, (by rcases hex with ⟨e1, e2, e3⟩ | h; exact Or.inl ⟨⟨e1, rfl⟩, e2, e3⟩; exact Or.inr h)⟩
      · rintro j Bm2 ⟨Ia2, La2, ch2, ls2⟩ hk2 ⟨hKl2, hex2⟩ ih2
        have hKl2 : zK n kd I L Rf I Ia2 La2 Rf T (some T.x) none false := hKl2
        have hex2 : (((k = 0 ∧ j = 0) ∧ a_swi T k (a_swo T k) j = (-1, 1000000) ∧ ls2 = 21) ∨ zs2 T (a_swi T k (a_swo T k) j) ch2 ls2) := hex2
        refine ez_le (f' := f + (100 - 7 * k - (j + 1)) + 1) (by omega) ?_
        show ez_P _ _ _ _ _ _ 48 [(4, .int (nI (k + 1 + j))), (2, .int ls2), (1, .int ch2), (3, .int (nI k)), (0, .ref 0)] [] (n, sl, kd, Ia2, La2, Rf) _
        refine ez_iload (i := 4) dX10_swaps_48 rfl ?_
        refine ez_aload_n (i := 0) dX10_swaps_50 rfl rfl ?_
        refine ez_getR dX10_swaps_51 flX10_33 (hF.lt (by decide)) (hF.kc (by decide) rfl) (hF.pt 21 rfl) ?_
        refine ez_getI dX10_swaps_54 flX10_126 (hF.lt (by decide)) (hF.kc (by decide) rfl) ?_
        refine ez_topE (y := nI T.c) hKl2.C.sh.cr ?_
        refine ez_icmp_ge (tgt := 98) dX10_swaps_57 (by decide) (fun c5 => absurd c5 (nI_ge (by omega) (by omega))) (fun c5 => ?_)
        refine ez_aload_n (i := 0) dX10_swaps_60 rfl rfl ?_
        refine ez_iload_n (i := 3) dX10_swaps_61 rfl rfl ?_
        refine ez_iload (i := 4) dX10_swaps_62 rfl ?_
        refine ez_callVm (M1 := mX10_pullIfSwapped) (rest := []) dX10_swaps_64 mlX10_335 mvX10_pullIfSwapped rfl (hF.lt (by decide)) (hF.kc (by decide) rfl) (Nat.le_of_ble_eq_true rfl) rfl (k_pis (T := T) (I := Ia2) (L := La2) (d + 29) hKl2 hO hH (p0 := k) (q0 := (k + 1 + j)) (by omega) (by omega) (by omega) (f + (100 - 7 * k - (j + 1))) _) zpK_ok ?_
        rintro _ _ C8 _ ⟨rfl, I6, rfl, hK7⟩
        show ez_P _ _ _ _ _ _ 67 [(4, .int (nI (k + 1 + j))), (2, .int ls2), (1, .int ch2), (3, .int (nI k)), (0, .ref 0)] (.int (zsp T k (k + 1 + j)) :: []) (n, sl, kd, I6, La2, Rf) _
        have hK7 : zK n kd I L Rf I I6 La2 Rf T (some T.x) none false := hK7
        refine ez_istore (l' := [(5, .int (zsp T k (k + 1 + j))), (4, .int (nI (k + 1 + j))), (2, .int ls2), (1, .int ch2), (3, .int (nI k)), (0, .ref 0)]) dX10_swaps_67 (by decide) rfl ?_
        refine ez_iload (i := 5) dX10_swaps_69 rfl ?_
        refine ez_abs dX10_swaps_71 xmX10_287 (Nat.le_of_ble_eq_true rfl) ?_
        refine ez_topE (y := z_ab (zsp T k (k + 1 + j))) rfl ?_
        refine ez_iload_n (i := 2) dX10_swaps_74 rfl rfl ?_
        refine ez_abs dX10_swaps_75 xmX10_287 (Nat.le_of_ble_eq_true rfl) ?_
        refine ez_topE (y := z_ab ls2) rfl ?_
        refine ez_icmp_ge (tgt := 92) dX10_swaps_78 (by decide) (fun c9 => ?_) (fun c9 => ?_)
        · skip
          refine ez_iinc (v := (nI (k + 1 + j + 1))) (l' := [(4, .int ((nI (k + 1 + j + 1)))), (5, .int (zsp T k (k + 1 + j))), (2, .int ls2), (1, .int ch2), (3, .int (nI k)), (0, .ref 0)]) dX10_swaps_92 rfl (nI_1 _) (by decide) rfl ?_
          refine ez_goto (tgt := 48) dX10_swaps_95 (by decide) ?_
          refine ez_sub (l' := [(4, .int ((nI (k + 1 + j + 1)))), (2, .int ls2), (1, .int ch2), (3, .int (nI k)), (0, .ref 0)]) [0, 2, 3, 4, 5] rfl ?_
          refine ez_le (f' := f + (100 - 7 * k - (j + 1))) (by omega) ?_
          exact ez_eq (l2 := [(4, .int (nI (k + 1 + (j + 1)))), (2, .int ls2), (1, .int ch2), (3, .int (nI k)), (0, .ref 0)]) rfl rfl rfl rfl (ih2 _ (I6, La2, ch2, ls2) ⟨hK7, (Or.inr (by rw [a_swi, b_swi]; exact zs2_no (zsp_rg T _ _) hex2 c9))⟩)
        · skip
          refine ez_iload (i := 5) dX10_swaps_81 rfl ?_
          refine ez_istore_n (l' := [(2, .int (zsp T k (k + 1 + j))), (5, .int (zsp T k (k + 1 + j))), (4, .int (nI (k + 1 + j))), (1, .int ch2), (3, .int (nI k)), (0, .ref 0)]) dX10_swaps_83 rfl (by decide) rfl ?_
          refine ez_bipush (v := 10) dX10_swaps_84 (by decide) ?_
          refine ez_iload_n (i := 3) dX10_swaps_86 rfl rfl ?_
          refine ez_imul dX10_swaps_87 ?_
          refine ez_topE (y := nI (10 * k)) (nI_mul _ _) ?_
          refine ez_iload (i := 4) dX10_swaps_88 rfl ?_
          refine ez_iadd dX10_swaps_90 ?_
          refine ez_topE (y := nI ((10 * k) + (k + 1 + j))) (nI_add _ _) ?_
          refine ez_istore_n (l' := [(1, .int (nI ((10 * k) + (k + 1 + j)))), (2, .int (zsp T k (k + 1 + j))), (5, .int (zsp T k (k + 1 + j))), (4, .int (nI (k + 1 + j))), (3, .int (nI k)), (0, .ref 0)]) dX10_swaps_91 rfl (by decide) rfl ?_
          refine ez_iinc (v := (nI (k + 1 + j + 1))) (l' := [(4, .int ((nI (k + 1 + j + 1)))), (1, .int (nI ((10 * k) + (k + 1 + j)))), (2, .int (zsp T k (k + 1 + j))), (5, .int (zsp T k (k + 1 + j))), (3, .int (nI k)), (0, .ref 0)]) dX10_swaps_92 rfl (nI_1 _) (by decide) rfl ?_
          refine ez_goto (tgt := 48) dX10_swaps_95 (by decide) ?_
          refine ez_sub (l' := [(4, .int ((nI (k + 1 + j + 1)))), (2, .int (zsp T k (k + 1 + j))), (1, .int (nI ((10 * k) + (k + 1 + j)))), (3, .int (nI k)), (0, .ref 0)]) [0, 2, 1, 4, 5] rfl ?_
          refine ez_le (f' := f + (100 - 7 * k - (j + 1))) (by omega) ?_
          exact ez_eq (l2 := [(4, .int (nI (k + 1 + (j + 1)))), (2, .int (zsp T k (k + 1 + j))), (1, .int (nI ((10 * k) + (k + 1 + j)))), (3, .int (nI k)), (0, .ref 0)]) rfl rfl rfl rfl (ih2 _ (I6, La2, nI ((10 * k) + (k + 1 + j)), zsp T k (k + 1 + j)) ⟨hK7, (Or.inr (by rw [a_swi, b_swi]; exact zs2_yes (by omega) (by omega) hex2 c9))⟩)
      · rintro Bm2 ⟨Ia2, La2, ch2, ls2⟩ ⟨hKl2, hex2⟩
        have hKl2 : zK n kd I L Rf I Ia2 La2 Rf T (some T.x) none false := hKl2
        have hex2 : (((k = 0 ∧ (T.c - (k + 1)) = 0) ∧ a_swi T k (a_swo T k) (T.c - (k + 1)) = (-1, 1000000) ∧ ls2 = 21) ∨ zs2 T (a_swi T k (a_swo T k) (T.c - (k + 1))) ch2 ls2) := hex2
        show ez_P _ _ _ _ _ _ 48 [(4, .int (nI (k + 1 + (T.c - (k + 1))))), (2, .int ls2), (1, .int ch2), (3, .int (nI k)), (0, .ref 0)] [] (n, sl, kd, Ia2, La2, Rf) _
        refine ez_iload (i := 4) dX10_swaps_48 rfl ?_
        refine ez_aload_n (i := 0) dX10_swaps_50 rfl rfl ?_
        refine ez_getR dX10_swaps_51 flX10_33 (hF.lt (by decide)) (hF.kc (by decide) rfl) (hF.pt 21 rfl) ?_
        refine ez_getI dX10_swaps_54 flX10_126 (hF.lt (by decide)) (hF.kc (by decide) rfl) ?_
        refine ez_topE (y := nI T.c) hKl2.C.sh.cr ?_
        refine ez_icmp_ge (tgt := 98) dX10_swaps_57 (by decide) (fun c10 => ?_) (fun c10 => absurd (nI_le (by omega) (by omega)) c10)
        refine ez_iinc (v := (nI (k + 1))) (l' := [(3, .int ((nI (k + 1)))), (4, .int (nI (k + 1 + (T.c - (k + 1))))), (2, .int ls2), (1, .int ch2), (0, .ref 0)]) dX10_swaps_98 rfl (nI_1 _) (by decide) rfl ?_
        refine ez_goto (tgt := 32) dX10_swaps_101 (by decide) ?_
        refine ez_sub (l' := [(3, .int ((nI (k + 1)))), (2, .int ls2), (1, .int ch2), (0, .ref 0)]) [0, 2, 3, 4] rfl ?_
        refine ez_le (f' := f + (100 - 7 * (k + 1))) (by omega) ?_
        exact ez_eq (l2 := [(3, .int (nI (k + 1))), (2, .int ls2), (1, .int ch2), (0, .ref 0)]) rfl rfl rfl rfl (ih _ (Ia2, La2, ch2, ls2) ⟨hKl2, (Or.inr (by rcases hex2 with ⟨⟨_, e⟩, _⟩ | h; omega; rw [a_swo, b_swo]; exact h))⟩)
    · rintro Bm ⟨Ia, La, ch, ls⟩ ⟨hKl, hex⟩
      have hKl : zK n kd I L Rf I Ia La Rf T (some T.x) none false := hKl
      have hex : ((T.c = 0 ∧ a_swo T T.c = (-1, 1000000) ∧ ls = 21) ∨ zs2 T (a_swo T T.c) ch ls) := hex
      show ez_P _ _ _ _ _ _ 32 [(3, .int (nI T.c)), (2, .int ls), (1, .int ch), (0, .ref 0)] [] (n, sl, kd, Ia, La, Rf) _
      refine ez_iload_n (i := 3) dX10_swaps_32 rfl rfl ?_
      refine ez_aload_n (i := 0) dX10_swaps_33 rfl rfl ?_
      refine ez_getR dX10_swaps_34 flX10_33 (hF.lt (by decide)) (hF.kc (by decide) rfl) (hF.pt 21 rfl) ?_
      refine ez_getI dX10_swaps_37 flX10_126 (hF.lt (by decide)) (hF.kc (by decide) rfl) ?_
      refine ez_topE (y := nI T.c) hKl.C.sh.cr ?_
      refine ez_icmp_ge (tgt := 104) dX10_swaps_40 (by decide) (fun c11 => ?_) (fun c11 => absurd (nI_le (Nat.le_refl _) (by omega)) c11)
      refine ez_aload_n (i := 0) dX10_swaps_104 rfl rfl ?_
      refine ez_getR dX10_swaps_105 flX10_19 (hF.lt (by decide)) (hF.kc (by decide) rfl) (hF.pt 3 rfl) ?_
      refine ez_bipush (v := 100) dX10_swaps_108 (by decide) ?_
      refine ez_iload_n (i := 2) dX10_swaps_110 rfl rfl ?_
      refine ez_iadd dX10_swaps_111 ?_
      refine ez_callV (M1 := mX4_tell) (rest := []) dX10_swaps_112 mlX10_285 mvX4_tell rfl (hF.lt (by decide)) (hF.kc (by decide) rfl) (Nat.le_of_ble_eq_true rfl) rfl (y_X4_tell (I := Ia) (L := La) (d + 58) hF (100 + ls)) z_tok ?_
      rintro _ _ ⟨rfl, I12, L13, rfl, hr14, ho15⟩
      show ez_P _ _ _ _ _ _ 115 [(3, .int (nI T.c)), (2, .int ls), (1, .int ch), (0, .ref 0)] [] (n, sl, kd, I12, L13, Rf) _
      have hK16 : zK n kd I L Rf I I12 L13 Rf (T.w_rw [(100 + ls).toInt64]) (some T.x) none false := by exact hKl.tell hr14 ho15
      refine ez_iload_n (i := 1) dX10_swaps_115 rfl rfl ?_
      refine ez_iret dX10_swaps_116 rfl rfl ?_
      obtain ⟨p, q, h1, h2, h3, h4, h5, h6⟩ : zs2 T (a_swo T T.c) ch ls := by rcases hex with ⟨e, _⟩ | h; omega; exact h
      have ed := z_d10 p (by omega) q (by omega)
      rw [show s_swaps T = (ch, T.w_rw [(100 + ls).toInt64]) from by unfold s_swaps; rw [if_neg (by rw [h3]; exact nI_nm1 _ (by omega)), h4, h5, h3, ed.2, ed.1, nI_clamp (by omega), nI_clamp (by omega)]]
      exact hK16.end
  · skip
    refine ez_bipush (v := (-2)) dX10_swaps_11 (by decide) ?_
    refine ez_iret dX10_swaps_13 rfl rfl ?_
    have hc2 : T.c < 2 := Nat.lt_of_not_le (fun e => c1 (nI_le (a := 2) e (by omega)))
    rw [show s_swaps T = (-2, T) from by unfold s_swaps; rw [if_pos (by rcases (show T.c = 0 ∨ T.c = 1 by omega) with e | e; rw [e]; rfl; rw [e, a_swo, b_swo, e]; rfl)]]
    exact hK0.end
/-- how many of the first k bits are set -/
def zcb (s : Int32) : Nat → Nat
  | 0 => 0
  | k + 1 => zcb s k + (if s >>> (nI k &&& 31) &&& 1 = 1 then 1 else 0)
theorem zcb_k : ∀ m, m < 128 → ∀ b, b < 7 → (nI m ||| (1 <<< (nI b &&& 31)) = nI (m ||| (1 <<< b))) ∧ (m ||| (1 <<< b)) < 128 ∧ ∀ c, c < 8 → zcb (nI (m ||| (1 <<< b))) c ≤ zcb (nI m) c + 1 := by decide +kernel
theorem a_lni_m {T : zT} {s : Int32} : ∀ k, k ≤ 7 → a_lni T s k = -1 → zcb s k = k := by
  intro k
  induction k with
  | zero => intro _ _; rfl
  | succ k ih =>
    intro hk h
    rw [a_lni, b_lni] at h
    rw [zcb]
    by_cases hb : s >>> (nI k &&& 31) &&& 1 = 1
    · rw [if_pos hb] at h; rw [if_pos hb, ih (by omega) h]
    · rw [if_neg hb] at h
      by_cases e : a_lni T s k = -1
      · rw [if_pos e] at h; exact absurd h (nI_nm1 k (by omega))
      · rw [if_neg e] at h
        split at h
        · exact absurd h e
        · exact absurd h (nI_nm1 k (by omega))
def zln (T : zT) (a he mo : Int32) : Prop := (a = -1 ∧ mo = -1) ∨ ∃ b, b < T.c ∧ a = nI b ∧ he = nI b ∧ mo = zwt T T.x b
theorem zwt_m1 (T : zT) (x : Nat → Int32) (b : Nat) : ¬ zwt T x b ≤ -1 := by
  obtain ⟨m, h1, h2⟩ := zwt_n T x b
  rw [h2]; intro h
  have := (Int32.le_iff_toInt_le).mp h
  rw [nI_toInt (by omega), show (-1 : Int32).toInt = -1 from rfl] at this
  omega
theorem k_hvb {n : Nat} {sl : Nat × Nat} {kd : Nat → Nat × Nat} {I : Nat → Nat → Int32} {L : Nat → Nat → Int64} {Rf : Nat → Nat → Option Nat} (d : Nat) {T : zT} {v : List Int64} {H : Nat} {I0 g : Nat → Nat → Int32} {L0 : Nat → Nat → Int64} {R0 : Nat → Nat → Option Nat} {G Bf : Option (Nat → Int32)} (hK : zK n kd I0 L0 R0 g I L Rf (T.w_rw v) G Bf true) (hO : zOk H T) (hH : H ≤ 1000000000) {s : Int32} (hs : zcb s T.c < T.c) : zq mX10_heaviestBut (d + 20) [.ref 0, .int s] (n, sl, kd, I, L, Rf) (eb_r (a_lni T s T.c) (n, sl, kd, I, L, Rf)) := by
  have hC := hK.C; have hF := hC.F; have hc7 := hO.c
  intro f B
  refine ez_meth pn_X.2.2.2.2.2.2.2.2.2.2.1 (Nat.le_of_ble_eq_true rfl) ?_
  show ez_P _ _ _ _ _ _ 0 [(0, .ref 0), (1, .int s)] [] (n, sl, kd, I, L, Rf) _
  refine ez_iconst (v := 0) dX10_heaviestBut_0 (by decide) ?_
  refine ez_istore_n (l' := [(2, .int 0), (0, .ref 0), (1, .int s)]) dX10_heaviestBut_1 rfl (by decide) rfl ?_
  refine ez_iconst (v := (-1)) dX10_heaviestBut_2 (by decide) ?_
  refine ez_istore_n (l' := [(3, .int ((-1))), (2, .int 0), (0, .ref 0), (1, .int s)]) dX10_heaviestBut_3 rfl (by decide) rfl ?_
  refine ez_iconst (v := 0) dX10_heaviestBut_4 (by decide) ?_
  refine ez_istore (l' := [(4, .int 0), (3, .int ((-1))), (2, .int 0), (0, .ref 0), (1, .int s)]) dX10_heaviestBut_5 (by decide) rfl ?_
  refine ez_eq (l2 := [(4, .int (nI 0)), (3, .int ((-1))), (2, .int 0), (0, .ref 0), (1, .int s)]) (σ2 := (n, sl, kd, I, L, Rf)) rfl rfl rfl rfl ?_
  refine ez_for T.c (fun k (a : Int32 × Int32) => ([(4, .int (nI k)), (3, .int a.2), (2, .int a.1), (0, .ref 0), (1, .int s)], (n, sl, kd, I, L, Rf))) (fun k a => zln T (a_lni T s k) a.1 a.2) ?_ ?_ T.c 0 (0, (-1)) (by omega) (Or.inl ⟨rfl, rfl⟩)
  · rintro k ⟨he, mo⟩ hk hin ih
    have hin : zln T (a_lni T s k) he mo := hin
    show ez_P _ _ _ _ _ _ 7 [(4, .int (nI k)), (3, .int mo), (2, .int he), (0, .ref 0), (1, .int s)] [] (n, sl, kd, I, L, Rf) _
    refine ez_iload (i := 4) dX10_heaviestBut_7 rfl ?_
    refine ez_aload_n (i := 0) dX10_heaviestBut_9 rfl rfl ?_
    refine ez_getR dX10_heaviestBut_10 flX10_33 (hF.lt (by decide)) (hF.kc (by decide) rfl) (hF.pt 21 rfl) ?_
    refine ez_getI dX10_heaviestBut_13 flX10_126 (hF.lt (by decide)) (hF.kc (by decide) rfl) ?_
    refine ez_topE (y := nI T.c) hK.C.sh.cr ?_
    refine ez_icmp_ge (tgt := 56) dX10_heaviestBut_16 (by decide) (fun c1 => absurd c1 (nI_ge hk (by omega))) (fun c1 => ?_)
    refine ez_iload_n (i := 1) dX10_heaviestBut_19 rfl rfl ?_
    refine ez_iload (i := 4) dX10_heaviestBut_20 rfl ?_
    refine ez_callS (M1 := mX10_hasBit) (rest := []) dX10_heaviestBut_22 mlX10_346 msX10_hasBit rfl (Nat.le_of_ble_eq_true rfl) rfl (zq_b (q_X10_hasBit (d + 19) s (nI k)) (n, sl, kd, I, L, Rf)) eb_bok ?_
    rintro _ _ ⟨rfl, ⟨b2, rfl⟩ | ⟨b2, rfl⟩⟩
    · show ez_P _ _ _ _ _ _ 25 [(4, .int (nI k)), (3, .int mo), (2, .int he), (0, .ref 0), (1, .int s)] (.int 1 :: []) _ _
      refine ez_if_ne (tgt := 50) dX10_heaviestBut_25 (by decide) (fun c3 => ?_) (fun c3 => absurd (by decide) c3)
      refine ez_iinc (v := (nI (k + 1))) (l' := [(4, .int ((nI (k + 1)))), (3, .int mo), (2, .int he), (0, .ref 0), (1, .int s)]) dX10_heaviestBut_50 rfl (nI_1 _) (by decide) rfl ?_
      refine ez_goto (tgt := 7) dX10_heaviestBut_53 (by decide) ?_
      exact ez_eq (l2 := [(4, .int (nI (k + 1))), (3, .int mo), (2, .int he), (0, .ref 0), (1, .int s)]) rfl rfl rfl rfl (ih (he, mo) (by rw [a_lni, b_lni, if_pos b2]; exact hin))
    · show ez_P _ _ _ _ _ _ 25 [(4, .int (nI k)), (3, .int mo), (2, .int he), (0, .ref 0), (1, .int s)] (.int 0 :: []) _ _
      refine ez_if_ne (tgt := 50) dX10_heaviestBut_25 (by decide) (fun c4 => absurd c4 (by decide)) (fun c4 => ?_)
      refine ez_aload_n (i := 0) dX10_heaviestBut_28 rfl rfl ?_
      refine ez_getR dX10_heaviestBut_29 flX10_91 (hF.lt (by decide)) (hF.kc (by decide) rfl) (hF.pt 103 rfl) ?_
      refine ez_iload (i := 4) dX10_heaviestBut_32 rfl ?_
      refine ez_iaN (k := k) dX10_heaviestBut_34 (hF.lt (by decide)) (hF.ka (by decide) rfl) (by omega) (by decide) ?_
      refine ez_topE (y := zwt T T.x k) (hK.lo rfl _ (by omega)) ?_
      refine ez_iload_n (i := 3) dX10_heaviestBut_35 rfl rfl ?_
      refine ez_icmp_le (tgt := 50) dX10_heaviestBut_36 (by decide) (fun c5 => ?_) (fun c5 => ?_)
      · skip
        refine ez_iinc (v := (nI (k + 1))) (l' := [(4, .int ((nI (k + 1)))), (3, .int mo), (2, .int he), (0, .ref 0), (1, .int s)]) dX10_heaviestBut_50 rfl (nI_1 _) (by decide) rfl ?_
        refine ez_goto (tgt := 7) dX10_heaviestBut_53 (by decide) ?_
        exact ez_eq (l2 := [(4, .int (nI (k + 1))), (3, .int mo), (2, .int he), (0, .ref 0), (1, .int s)]) rfl rfl rfl rfl (ih (he, mo) (by rw [a_lni, b_lni, if_neg b2]; rcases hin with ⟨_, e⟩ | ⟨b, h1, h2, h3, h4⟩; rw [e] at c5; exact absurd c5 (zwt_m1 T _ _); rw [h2, if_neg (nI_nm1 _ (by omega)), nI_clamp (by omega), if_pos (by rw [← h4]; exact c5)]; exact Or.inr ⟨b, h1, rfl, h3, h4⟩))
      · skip
        refine ez_aload_n (i := 0) dX10_heaviestBut_39 rfl rfl ?_
        refine ez_getR dX10_heaviestBut_40 flX10_91 (hF.lt (by decide)) (hF.kc (by decide) rfl) (hF.pt 103 rfl) ?_
        refine ez_iload (i := 4) dX10_heaviestBut_43 rfl ?_
        refine ez_iaN (k := k) dX10_heaviestBut_45 (hF.lt (by decide)) (hF.ka (by decide) rfl) (by omega) (by decide) ?_
        refine ez_topE (y := zwt T T.x k) (hK.lo rfl _ (by omega)) ?_
        refine ez_istore_n (l' := [(3, .int (zwt T T.x k)), (4, .int (nI k)), (2, .int he), (0, .ref 0), (1, .int s)]) dX10_heaviestBut_46 rfl (by decide) rfl ?_
        refine ez_iload (i := 4) dX10_heaviestBut_47 rfl ?_
        refine ez_istore_n (l' := [(2, .int (nI k)), (3, .int (zwt T T.x k)), (4, .int (nI k)), (0, .ref 0), (1, .int s)]) dX10_heaviestBut_49 rfl (by decide) rfl ?_
        refine ez_iinc (v := (nI (k + 1))) (l' := [(4, .int ((nI (k + 1)))), (2, .int (nI k)), (3, .int (zwt T T.x k)), (0, .ref 0), (1, .int s)]) dX10_heaviestBut_50 rfl (nI_1 _) (by decide) rfl ?_
        refine ez_goto (tgt := 7) dX10_heaviestBut_53 (by decide) ?_
        refine ez_sub (l' := [(4, .int ((nI (k + 1)))), (3, .int (zwt T T.x k)), (2, .int (nI k)), (0, .ref 0), (1, .int s)]) [0, 2, 1, 3, 4] rfl ?_
        exact ez_eq (l2 := [(4, .int (nI (k + 1))), (3, .int (zwt T T.x k)), (2, .int (nI k)), (0, .ref 0), (1, .int s)]) rfl rfl rfl rfl (ih (nI k, zwt T T.x k) (by rw [a_lni, b_lni, if_neg b2]; refine Or.inr ⟨k, hk, ?_, rfl, rfl⟩; rcases hin with ⟨e, _⟩ | ⟨b, h1, h2, h3, h4⟩; rw [e, if_pos rfl]; rw [h2, if_neg (nI_nm1 _ (by omega)), nI_clamp (by omega), if_neg (by rw [← h4]; exact c5)]))
  · rintro ⟨he, mo⟩ hin
    have hin : zln T (a_lni T s T.c) he mo := hin
    show ez_P _ _ _ _ _ _ 7 [(4, .int (nI T.c)), (3, .int mo), (2, .int he), (0, .ref 0), (1, .int s)] [] (n, sl, kd, I, L, Rf) _
    refine ez_iload (i := 4) dX10_heaviestBut_7 rfl ?_
    refine ez_aload_n (i := 0) dX10_heaviestBut_9 rfl rfl ?_
    refine ez_getR dX10_heaviestBut_10 flX10_33 (hF.lt (by decide)) (hF.kc (by decide) rfl) (hF.pt 21 rfl) ?_
    refine ez_getI dX10_heaviestBut_13 flX10_126 (hF.lt (by decide)) (hF.kc (by decide) rfl) ?_
    refine ez_topE (y := nI T.c) hK.C.sh.cr ?_
    refine ez_icmp_ge (tgt := 56) dX10_heaviestBut_16 (by decide) (fun c6 => ?_) (fun c6 => absurd (nI_le (Nat.le_refl _) (by omega)) c6)
    refine ez_iload_n (i := 2) dX10_heaviestBut_56 rfl rfl ?_
    refine ez_iret dX10_heaviestBut_57 rfl rfl ?_
    obtain ⟨b, h1, h2, h3, h4⟩ : ∃ b, b < T.c ∧ a_lni T s T.c = nI b ∧ he = nI b ∧ mo = zwt T T.x b := by rcases hin with ⟨e, _⟩ | h; exact absurd (a_lni_m T.c hc7 e) (by omega); exact h
    exact ⟨rfl, by rw [h2, h3]⟩
theorem zK.rowz {n : Nat} {kd : Nat → Nat × Nat} {I0 g I : Nat → Nat → Int32} {L0 L : Nat → Nat → Int64} {R0 Rf : Nat → Nat → Option Nat} {T : zT} {G Bf : Option (Nat → Int32)} {w : Bool} {vs : List Int32} (h : zK n kd I0 L0 R0 g I L Rf (T.w_rw (vs.map Int32.toInt64)) G Bf w) : z_row I L 3 vs := by
  have hr : zcR I L (vs.map Int32.toInt64) := h.C.rw
  refine ⟨hr.1.trans (by rw [List.length_map]), fun k hk => ?_⟩
  rw [hr.2 k (by rw [List.length_map]; exact hk)]
  simp only [List.getD, List.getElem?_map]
  rw [List.getElem?_eq_getElem hk]; rfl
theorem a_lni_n {T : zT} {s : Int32} (hc : T.c ≤ 7) (hs : zcb s T.c < T.c) : ∃ b, b < T.c ∧ a_lni T s T.c = nI b := by
  have : ∀ k, k ≤ T.c → a_lni T s k = -1 ∨ ∃ b, b < T.c ∧ a_lni T s k = nI b := by
    intro k
    induction k with
    | zero => intro _; exact Or.inl rfl
    | succ k ih =>
      intro hk
      rw [a_lni, b_lni]
      split
      · exact ih (by omega)
      · split
        · exact Or.inr ⟨k, by omega, rfl⟩
        · split
          · exact ih (by omega)
          · exact Or.inr ⟨k, by omega, rfl⟩
  rcases this T.c (Nat.le_refl _) with h | h
  · exact absurd (a_lni_m T.c hc h) (by omega)
  · exact h
theorem z_cb0 : ∀ c, c ≤ 7 → zcb (nI 0) c = 0 := by decide +kernel
theorem zOk.rww {H : Nat} {T : zT} (h : zOk H T) {v : List Int64} (hv : v.length ≤ 8) : zOk H (T.w_rw v) := ⟨h.txl, h.tx, hv, h.pr, h.wm, h.wd, h.c, h.x, h.unl, h.un, h.kp, h.snl, h.sn, h.hdl, h.hd, h.rv⟩
theorem c_line {n : Nat} {sl : Nat × Nat} {kd : Nat → Nat × Nat} {I : Nat → Nat → Int32} {L : Nat → Nat → Int64} {Rf : Nat → Nat → Option Nat} (d : Nat) {T : zT} {H : Nat} (hC : zC n kd I L Rf T) (hO : zOk H T) (hH : H ≤ 1000000000) : zq mX10_line (d + 60) [.ref 0] (n, sl, kd, I, L, Rf) (zpC n sl kd I L Rf (some (.int (s_line T).1)) (s_line T).2) := by
  have hF := hC.F; have hc7 := hO.c
  have hK0 : zK n kd I L Rf I I L Rf T none none false := zK.start hC
  intro f B
  refine ez_meth pn_X.2.2.2.2.2.2.2.2.2.2.1 (Nat.le_of_ble_eq_true rfl) ?_
  show ez_P _ _ _ _ _ _ 0 [(0, .ref 0)] [] (n, sl, kd, I, L, Rf) _
  refine ez_aload_n (i := 0) dX10_line_0 rfl rfl ?_
  refine ez_callV (M1 := mX10_weighAll) (rest := []) dX10_line_1 mlX10_263 mvX10_weighAll rfl (hF.lt (by decide)) (hF.kc (by decide) rfl) (Nat.le_of_ble_eq_true rfl) rfl (k_weighAll (T := T) (I := I) (L := L) (d + 39) hK0.C hO hH) k_wo_ok ?_
  rintro _ _ ⟨rfl, I1, rfl, hl2, hn3⟩
  show ez_P _ _ _ _ _ _ 4 [(0, .ref 0)] [] (n, sl, kd, I1, L, Rf) _
  have hK4 : zK n kd I L Rf I I1 L Rf T none none true := by exact hK0.lod hl2 hn3
  refine ez_aload_n (i := 0) dX10_line_4 rfl rfl ?_
  refine ez_getR dX10_line_5 flX10_19 (hF.lt (by decide)) (hF.kc (by decide) rfl) (hF.pt 3 rfl) ?_
  refine ez_callV (M1 := mX4_empty) (rest := []) dX10_line_8 mlX10_297 mvX4_empty rfl (hF.lt (by decide)) (hF.kc (by decide) rfl) (Nat.le_of_ble_eq_true rfl) rfl (y_X4_empty (I := I1) (L := L) (d + 59) hF) z_tok ?_
  rintro _ _ ⟨rfl, I5, L6, rfl, hr7, ho8⟩
  show ez_P _ _ _ _ _ _ 11 [(0, .ref 0)] [] (n, sl, kd, I5, L6, Rf) _
  have hK9 : zK n kd I L Rf I I5 L6 Rf (T.w_rw []) none none true := by exact hK4.tell hr7 ho8
  refine ez_iconst (v := 0) dX10_line_11 (by decide) ?_
  refine ez_istore_n (l' := [(1, .int 0), (0, .ref 0)]) dX10_line_12 rfl (by decide) rfl ?_
  refine ez_iconst (v := 0) dX10_line_13 (by decide) ?_
  refine ez_istore_n (l' := [(2, .int 0), (1, .int 0), (0, .ref 0)]) dX10_line_14 rfl (by decide) rfl ?_
  have hKv : zK n kd I L Rf I I5 L6 Rf (T.w_rw (([] : List Int32).map Int32.toInt64)) none none true := hK9
  refine ez_eq (l2 := [(2, .int (nI 0)), (1, .int 0), (0, .ref 0)]) (σ2 := (n, sl, kd, I5, L6, Rf)) rfl rfl rfl rfl ?_
  refine ez_for T.c (fun k (a : (Nat → Nat → Int32) × (Nat → Nat → Int64) × Int32 × (List Int32)) => ([(2, .int (nI k)), (1, .int a.2.2.1), (0, .ref 0)], (n, sl, kd, a.1, a.2.1, Rf))) (fun k a => zK n kd I L Rf I a.1 a.2.1 Rf (T.w_rw (List.map Int32.toInt64 a.2.2.2)) none none true ∧ ∃ m, m < 128 ∧ a.2.2.1 = nI m ∧ (zcb (nI m) T.c ≤ k ∧ a.2.2.2.length = k ∧ (a.2.2.1, List.map Int32.toInt64 a.2.2.2) = a_line T k)) ?_ ?_ T.c 0 (I5, L6, 0, []) (by omega) ⟨hKv, ⟨0, by decide, rfl, (by have := z_cb0 T.c hc7; omega), rfl, rfl⟩⟩
  · rintro k ⟨Ia, La, se, vs⟩ hk ⟨hKl, hex⟩ ih
    have hKl : zK n kd I L Rf I Ia La Rf (T.w_rw (List.map Int32.toInt64 vs)) none none true := hKl
    have hex : ∃ m, m < 128 ∧ se = nI m ∧ (zcb (nI m) T.c ≤ k ∧ vs.length = k ∧ (se, List.map Int32.toInt64 vs) = a_line T k) := hex
    show ez_P _ _ _ _ _ _ 15 [(2, .int (nI k)), (1, .int se), (0, .ref 0)] [] (n, sl, kd, Ia, La, Rf) _
    refine ez_iload_n (i := 2) dX10_line_15 rfl rfl ?_
    refine ez_aload_n (i := 0) dX10_line_16 rfl rfl ?_
    refine ez_getR dX10_line_17 flX10_33 (hF.lt (by decide)) (hF.kc (by decide) rfl) (hF.pt 21 rfl) ?_
    refine ez_getI dX10_line_20 flX10_126 (hF.lt (by decide)) (hF.kc (by decide) rfl) ?_
    refine ez_topE (y := nI T.c) hKl.C.sh.cr ?_
    refine ez_icmp_ge (tgt := 52) dX10_line_23 (by decide) (fun c10 => absurd c10 (nI_ge hk (by omega))) (fun c10 => ?_)
    refine ez_aload_n (i := 0) dX10_line_26 rfl rfl ?_
    refine ez_iload_n (i := 1) dX10_line_27 rfl rfl ?_
    refine ez_callV (M1 := mX10_heaviestBut) (rest := []) dX10_line_28 mlX10_338 mvX10_heaviestBut rfl (hF.lt (by decide)) (hF.kc (by decide) rfl) (Nat.le_of_ble_eq_true rfl) rfl (k_hvb (T := T) (I := Ia) (L := La) (d + 39) hKl hO hH (s := se) (by obtain ⟨m, h1, h2, h3⟩ := hex; rw [h2]; exact Nat.lt_of_le_of_lt h3.1 hk)) eb_rok ?_
    rintro _ _ ⟨rfl, rfl⟩
    show ez_P _ _ _ _ _ _ 31 [(2, .int (nI k)), (1, .int se), (0, .ref 0)] (.int (a_lni T se T.c) :: []) _ _
    refine ez_istore_n (l' := [(3, .int (a_lni T se T.c)), (2, .int (nI k)), (1, .int se), (0, .ref 0)]) dX10_line_31 rfl (by decide) rfl ?_
    refine ez_iload_n (i := 1) dX10_line_32 rfl rfl ?_
    refine ez_iconst (v := 1) dX10_line_33 (by decide) ?_
    refine ez_iload_n (i := 3) dX10_line_34 rfl rfl ?_
    refine ez_ishl dX10_line_35 ?_
    refine ez_ior dX10_line_36 ?_
    refine ez_istore_n (l' := [(1, .int (se ||| (1 <<< ((a_lni T se T.c) &&& 31)))), (3, .int (a_lni T se T.c)), (2, .int (nI k)), (0, .ref 0)]) dX10_line_37 rfl (by decide) rfl ?_
    refine ez_aload_n (i := 0) dX10_line_38 rfl rfl ?_
    refine ez_getR dX10_line_39 flX10_19 (hF.lt (by decide)) (hF.kc (by decide) rfl) (hF.pt 3 rfl) ?_
    refine ez_iload_n (i := 3) dX10_line_42 rfl rfl ?_
    refine ez_callV (M1 := mX4_add) (rest := []) dX10_line_43 mlX10_341 mvX4_add rfl (hF.lt (by decide)) (hF.kc (by decide) rfl) (Nat.le_of_ble_eq_true rfl) rfl (y_X4_add (I := Ia) (L := La) (d + 59) hF (vs := vs) hKl.rowz (by obtain ⟨m, h1, h2, h3⟩ := hex; omega) (a_lni T se T.c)) z_tok ?_
    rintro _ _ ⟨rfl, I11, L12, rfl, hr13, ho14⟩
    show ez_P _ _ _ _ _ _ 46 [(1, .int (se ||| (1 <<< ((a_lni T se T.c) &&& 31)))), (3, .int (a_lni T se T.c)), (2, .int (nI k)), (0, .ref 0)] [] (n, sl, kd, I11, L12, Rf) _
    have hK15 : zK n kd I L Rf I I11 L12 Rf (T.w_rw ((vs ++ [a_lni T se T.c]).map Int32.toInt64)) none none true := by exact hKl.tell hr13 ho14
    refine ez_iinc (v := (nI (k + 1))) (l' := [(2, .int ((nI (k + 1)))), (1, .int (se ||| (1 <<< ((a_lni T se T.c) &&& 31)))), (3, .int (a_lni T se T.c)), (0, .ref 0)]) dX10_line_46 rfl (nI_1 _) (by decide) rfl ?_
    refine ez_goto (tgt := 15) dX10_line_49 (by decide) ?_
    refine ez_sub (l' := [(2, .int ((nI (k + 1)))), (1, .int (se ||| (1 <<< ((a_lni T se T.c) &&& 31)))), (0, .ref 0)]) [0, 1, 3] rfl ?_
    exact ez_eq (l2 := [(2, .int (nI (k + 1))), (1, .int (se ||| (1 <<< ((a_lni T se T.c) &&& 31)))), (0, .ref 0)]) rfl rfl rfl rfl (ih (I11, L12, se ||| (1 <<< ((a_lni T se T.c) &&& 31)), (vs ++ [a_lni T se T.c])) ⟨hK15, (by
        obtain ⟨m, h1, h2, h3, h4, h5⟩ := hex
        obtain ⟨b, hb1, hb2⟩ := a_lni_n (s := se) hc7 (by rw [h2]; omega)
        obtain ⟨z1, z2, z3⟩ := zcb_k m h1 b (by omega)
        exact ⟨m ||| (1 <<< b), z2, by show se ||| _ = _; rw [hb2, h2, z1], by have := z3 T.c (by omega); omega, by show (vs ++ [_]).length = _; rw [List.length_append, h4]; rfl, by rw [a_line, ← h5, b_line]; show (_, List.map _ (vs ++ [_])) = _; rw [List.map_append]; rfl⟩)⟩)
  · rintro ⟨Ia, La, se, vs⟩ ⟨hKl, hex⟩
    have hKl : zK n kd I L Rf I Ia La Rf (T.w_rw (List.map Int32.toInt64 vs)) none none true := hKl
    have hex : ∃ m, m < 128 ∧ se = nI m ∧ (zcb (nI m) T.c ≤ T.c ∧ vs.length = T.c ∧ (se, List.map Int32.toInt64 vs) = a_line T T.c) := hex
    show ez_P _ _ _ _ _ _ 15 [(2, .int (nI T.c)), (1, .int se), (0, .ref 0)] [] (n, sl, kd, Ia, La, Rf) _
    refine ez_iload_n (i := 2) dX10_line_15 rfl rfl ?_
    refine ez_aload_n (i := 0) dX10_line_16 rfl rfl ?_
    refine ez_getR dX10_line_17 flX10_33 (hF.lt (by decide)) (hF.kc (by decide) rfl) (hF.pt 21 rfl) ?_
    refine ez_getI dX10_line_20 flX10_126 (hF.lt (by decide)) (hF.kc (by decide) rfl) ?_
    refine ez_topE (y := nI T.c) hKl.C.sh.cr ?_
    refine ez_icmp_ge (tgt := 52) dX10_line_23 (by decide) (fun c16 => ?_) (fun c16 => absurd (nI_le (Nat.le_refl _) (by omega)) c16)
    refine ez_aload_n (i := 0) dX10_line_52 rfl rfl ?_
    refine ez_getR dX10_line_53 flX10_33 (hF.lt (by decide)) (hF.kc (by decide) rfl) (hF.pt 21 rfl) ?_
    refine ez_getI dX10_line_56 flX10_126 (hF.lt (by decide)) (hF.kc (by decide) rfl) ?_
    refine ez_topE (y := nI T.c) hKl.C.sh.cr ?_
    refine ez_iret dX10_line_59 rfl rfl ?_
    obtain ⟨m, h1, h2, h3, h4, h5⟩ := hex
    rw [show s_line T = (nI T.c, T.w_rw (List.map Int32.toInt64 vs)) from by unfold s_line; rw [← h5]]
    exact hKl.end
theorem z_sm : ∀ j, j < 32 → ((nI j &&& 31).toBitVec.smod 32) = BitVec.ofNat 32 j := by decide +kernel
theorem z_bv1 (y : BitVec 32) : y &&& 1#32 = 1#32 ↔ y.getLsbD 0 = true := by
  rw [BitVec.and_one_eq_setWidth_ofBool_getLsbD]
  cases y.getLsbD 0 <;> decide
/-- a bit of an int -/
theorem zb_iff (x : Int32) {j : Nat} (hj : j < 32) : (x >>> (nI j &&& 31) &&& 1 = 1) ↔ x.toBitVec.getLsbD j = true := by
  rw [← Int32.toBitVec_inj, Int32.toBitVec_and, Int32.toBitVec_shiftRight, z_sm j hj]
  show x.toBitVec.sshiftRight' (BitVec.ofNat 32 j) &&& 1#32 = 1#32 ↔ _
  rw [z_bv1, BitVec.getLsbD_sshiftRight']
  have h1 : (BitVec.ofNat 32 j).toNat = j := by rw [BitVec.toNat_ofNat]; omega
  simp [h1, hj]
theorem z_s1 : ∀ l, l < 32 → ((1 : Int32) <<< (nI l &&& 31)).toBitVec = BitVec.twoPow 32 l := by decide +kernel
theorem zb_or (x : Int32) {j v : Nat} (hj : j < 32) (hv : v < 32) : ((x ||| (1 <<< (nI v &&& 31))) >>> (nI j &&& 31) &&& 1 = 1) ↔ (x >>> (nI j &&& 31) &&& 1 = 1) ∨ j = v := by
  rw [zb_iff _ hj, zb_iff _ hj, Int32.toBitVec_or, z_s1 v hv, BitVec.getLsbD_or, BitVec.getLsbD_twoPow]
  simp [hj]
  constructor
  · rintro (h | h)
    · exact Or.inl h
    · exact Or.inr (by omega)
  · rintro (h | h)
    · exact Or.inl h
    · exact Or.inr (by omega)
theorem zb_0 {j : Nat} (hj : j < 32) : ¬ ((0 : Int32) >>> (nI j &&& 31) &&& 1 = 1) := by rw [Int32.zero_shiftRight]; decide
/-- the bits tb are those of the thoughts (places) of the first k of the set s -/
def ztb (y : Nat → Nat) (s : Int32) (k : Nat) (tb : Int32) : Prop := ∀ v, v < 16 → ((tb >>> (nI v &&& 31) &&& 1 = 1) ↔ ∃ q, q < k ∧ (s >>> (nI q &&& 31) &&& 1 = 1) ∧ y q = v)
theorem ztb.z {y : Nat → Nat} {s : Int32} : ztb y s 0 0 := fun v hv => ⟨fun h => absurd h (zb_0 (by omega)), fun ⟨q, h, _⟩ => absurd h (Nat.not_lt_zero q)⟩
theorem ztb.s {y : Nat → Nat} {s tb : Int32} {k : Nat} (h : ztb y s k tb) (hs : s >>> (nI k &&& 31) &&& 1 = 1) (hy : y k < 16) : ztb y s (k + 1) (tb ||| (1 <<< (nI (y k) &&& 31))) := by
  intro v hv
  rw [zb_or _ (by omega) (by omega), h v hv]
  constructor
  · rintro (⟨q, h1, h2, h3⟩ | e)
    · exact ⟨q, by omega, h2, h3⟩
    · exact ⟨k, by omega, hs, e.symm⟩
  · rintro ⟨q, h1, h2, h3⟩
    by_cases e : q = k
    · exact Or.inr (by rw [← h3, e])
    · exact Or.inl ⟨q, by omega, h2, h3⟩
theorem ztb.n {y : Nat → Nat} {s tb : Int32} {k : Nat} (h : ztb y s k tb) (hs : ¬ (s >>> (nI k &&& 31) &&& 1 = 1)) : ztb y s (k + 1) tb := by
  intro v hv
  rw [h v hv]
  constructor
  · rintro ⟨q, h1, h2, h3⟩; exact ⟨q, by omega, h2, h3⟩
  · rintro ⟨q, h1, h2, h3⟩
    by_cases e : q = k
    · rw [e] at h2; exact absurd h2 hs
    · exact ⟨q, by omega, h2, h3⟩
/-- thoughts and places as plain numbers -/
def zth (T : zT) (q : Nat) : Nat := (T.x (7 + q)).toNatClampNeg
def zpn (T : zT) (q : Nat) : Nat := (T.x (14 + q) + 5).toNatClampNeg
theorem zth_n {T : zT} {H q : Nat} (hx : zxr T.c H T.x) (hq : q < T.c) : zth T q < 6 ∧ T.x (7 + q) = nI (zth T q) := by
  obtain ⟨k, h1, h2⟩ := hx.t q hq
  have e : zth T q = k := by unfold zth; rw [h2, nI_clamp (by omega)]
  rw [e]; exact ⟨h1, h2⟩
theorem z_p5_k : ∀ k, k < 11 → nI k - 5 + 5 = nI k := by decide +kernel
theorem zpn_n {T : zT} {H q : Nat} (hx : zxr T.c H T.x) (hq : q < T.c) : zpn T q < 11 ∧ T.x (14 + q) + 5 = nI (zpn T q) ∧ T.x (14 + q) = nI (zpn T q) - 5 := by
  obtain ⟨k, h1, h2⟩ := hx.p q hq
  have e : zpn T q = k := by unfold zpn; rw [h2, z_p5_k k h1, nI_clamp (by omega)]
  rw [e, h2]; exact ⟨h1, z_p5_k k h1, rfl⟩
theorem z_thq {T : zT} {H p q : Nat} (hx : zxr T.c H T.x) (hp : p < T.c) (hq : q < T.c) : zth T q = zth T p ↔ T.x (7 + p) = T.x (7 + q) := by
  rw [(zth_n hx hp).2, (zth_n hx hq).2, nI_inj2 (by have := (zth_n hx hp).1; omega) (by have := (zth_n hx hq).1; omega)]; exact ⟨fun e => e.symm, fun e => e.symm⟩
theorem z_5inj {a b : Int32} (h : a - 5 = b - 5) : a = b := by
  have := congrArg (· + 5) h
  simpa [Int32.sub_eq_add_neg, Int32.add_assoc] using this
theorem z_pnq {T : zT} {H p q : Nat} (hx : zxr T.c H T.x) (hp : p < T.c) (hq : q < T.c) : zpn T q = zpn T p ↔ T.x (14 + p) = T.x (14 + q) := by
  rw [(zpn_n hx hp).2.2, (zpn_n hx hq).2.2]
  exact ⟨fun e => by rw [e], fun e => ((nI_inj2 (by have := (zpn_n hx hp).1; omega) (by have := (zpn_n hx hq).1; omega)).mp (z_5inj e)).symm⟩
theorem k_ald {n : Nat} {sl : Nat × Nat} {kd : Nat → Nat × Nat} {I : Nat → Nat → Int32} {L : Nat → Nat → Int64} {Rf : Nat → Nat → Option Nat} (d : Nat) {T : zT} {H : Nat} {I0 g : Nat → Nat → Int32} {L0 : Nat → Nat → Int64} {R0 : Nat → Nat → Option Nat} {G Bf : Option (Nat → Int32)} {w : Bool} (hK : zK n kd I0 L0 R0 g I L Rf T G Bf w) (hO : zOk H T) (hH : H ≤ 1000000000) (s : Int32) : zq mX10_allDiffer (d + 20) [.ref 0, .int s] (n, sl, kd, I, L, Rf) (eb_b (zapt T s) (n, sl, kd, I, L, Rf)) := by
  have hC := hK.C; have hF := hC.F; have hc7 := hO.c
  intro f B
  refine ez_meth pn_X.2.2.2.2.2.2.2.2.2.2.1 (Nat.le_of_ble_eq_true rfl) ?_
  show ez_P _ _ _ _ _ _ 0 [(0, .ref 0), (1, .int s)] [] (n, sl, kd, I, L, Rf) _
  refine ez_iconst (v := 0) dX10_allDiffer_0 (by decide) ?_
  refine ez_istore_n (l' := [(2, .int 0), (0, .ref 0), (1, .int s)]) dX10_allDiffer_1 rfl (by decide) rfl ?_
  refine ez_iconst (v := 0) dX10_allDiffer_2 (by decide) ?_
  refine ez_istore_n (l' := [(3, .int 0), (2, .int 0), (0, .ref 0), (1, .int s)]) dX10_allDiffer_3 rfl (by decide) rfl ?_
  refine ez_iconst (v := 0) dX10_allDiffer_4 (by decide) ?_
  refine ez_istore (l' := [(4, .int 0), (3, .int 0), (2, .int 0), (0, .ref 0), (1, .int s)]) dX10_allDiffer_5 (by decide) rfl ?_
  refine ez_eq (l2 := [(4, .int (nI 0)), (3, .int 0), (2, .int 0), (0, .ref 0), (1, .int s)]) (σ2 := (n, sl, kd, I, L, Rf)) rfl rfl rfl rfl ?_
  refine ez_for T.c (fun k (a : Int32 × Int32) => ([(4, .int (nI k)), (3, .int a.2), (2, .int a.1), (0, .ref 0), (1, .int s)], (n, sl, kd, I, L, Rf))) (fun k a => ztb (zth T) s k a.1 ∧ ztb (zpn T) s k a.2 ∧ ∀ p, p < k → ∀ q, q < p → ¬ zbd T s p q) ?_ ?_ T.c 0 (0, 0) (by omega) ⟨ztb.z, ztb.z, fun p hp => absurd hp (Nat.not_lt_zero p)⟩
  · rintro k ⟨tb, pb⟩ hk hin ih
    have hin : ztb (zth T) s k tb ∧ ztb (zpn T) s k pb ∧ ∀ p, p < k → ∀ q, q < p → ¬ zbd T s p q := hin
    show ez_P _ _ _ _ _ _ 7 [(4, .int (nI k)), (3, .int pb), (2, .int tb), (0, .ref 0), (1, .int s)] [] (n, sl, kd, I, L, Rf) _
    refine ez_iload (i := 4) dX10_allDiffer_7 rfl ?_
    refine ez_aload_n (i := 0) dX10_allDiffer_9 rfl rfl ?_
    refine ez_getR dX10_allDiffer_10 flX10_33 (hF.lt (by decide)) (hF.kc (by decide) rfl) (hF.pt 21 rfl) ?_
    refine ez_getI dX10_allDiffer_13 flX10_126 (hF.lt (by decide)) (hF.kc (by decide) rfl) ?_
    refine ez_topE (y := nI T.c) hK.C.sh.cr ?_
    refine ez_icmp_ge (tgt := 98) dX10_allDiffer_16 (by decide) (fun c1 => absurd c1 (nI_ge hk (by omega))) (fun c1 => ?_)
    refine ez_iload_n (i := 1) dX10_allDiffer_19 rfl rfl ?_
    refine ez_iload (i := 4) dX10_allDiffer_20 rfl ?_
    refine ez_callS (M1 := mX10_hasBit) (rest := []) dX10_allDiffer_22 mlX10_346 msX10_hasBit rfl (Nat.le_of_ble_eq_true rfl) rfl (zq_b (q_X10_hasBit (d + 19) s (nI k)) (n, sl, kd, I, L, Rf)) eb_bok ?_
    rintro _ _ ⟨rfl, ⟨b2, rfl⟩ | ⟨b2, rfl⟩⟩
    · show ez_P _ _ _ _ _ _ 25 [(4, .int (nI k)), (3, .int pb), (2, .int tb), (0, .ref 0), (1, .int s)] (.int 1 :: []) _ _
      refine ez_if_eq (tgt := 92) dX10_allDiffer_25 (by decide) (fun c3 => absurd c3 (by decide)) (fun c3 => ?_)
      refine ez_aload_n (i := 0) dX10_allDiffer_28 rfl rfl ?_
      refine ez_getR dX10_allDiffer_29 flX10_33 (hF.lt (by decide)) (hF.kc (by decide) rfl) (hF.pt 21 rfl) ?_
      refine ez_getR dX10_allDiffer_32 flX10_171 (hF.lt (by decide)) (hF.kc (by decide) rfl) (hF.pt 20 rfl) ?_
      refine ez_iload (i := 4) dX10_allDiffer_35 rfl ?_
      refine ez_iaN (k := k) dX10_allDiffer_37 (hF.lt (by decide)) (hF.ka (by decide) rfl) (by omega) (by decide) ?_
      refine ez_topE (y := T.x (14 + k)) (hK.C.sh.p _ (by omega)) ?_
      refine ez_iconst (v := 5) dX10_allDiffer_38 (by decide) ?_
      refine ez_iadd dX10_allDiffer_39 ?_
      refine ez_topE (y := nI (zpn T k)) (zpn_n hO.x hk).2.1 ?_
      refine ez_istore (l' := [(5, .int (nI (zpn T k))), (4, .int (nI k)), (3, .int pb), (2, .int tb), (0, .ref 0), (1, .int s)]) dX10_allDiffer_40 (by decide) rfl ?_
      refine ez_iload_n (i := 2) dX10_allDiffer_42 rfl rfl ?_
      refine ez_aload_n (i := 0) dX10_allDiffer_43 rfl rfl ?_
      refine ez_getR dX10_allDiffer_44 flX10_33 (hF.lt (by decide)) (hF.kc (by decide) rfl) (hF.pt 21 rfl) ?_
      refine ez_getR dX10_allDiffer_47 flX10_168 (hF.lt (by decide)) (hF.kc (by decide) rfl) (hF.pt 19 rfl) ?_
      refine ez_iload (i := 4) dX10_allDiffer_50 rfl ?_
      refine ez_iaN (k := k) dX10_allDiffer_52 (hF.lt (by decide)) (hF.ka (by decide) rfl) (by omega) (by decide) ?_
      refine ez_topE (y := nI (zth T k)) ((hK.C.sh.t _ (by omega)).trans (zth_n hO.x hk).2) ?_
      refine ez_callS (M1 := mX10_hasBit) (rest := []) dX10_allDiffer_53 mlX10_346 msX10_hasBit rfl (Nat.le_of_ble_eq_true rfl) rfl (zq_b (q_X10_hasBit (d + 19) tb (nI (zth T k))) (n, sl, kd, I, L, Rf)) eb_bok ?_
      rintro _ _ ⟨rfl, ⟨b4, rfl⟩ | ⟨b4, rfl⟩⟩
      · show ez_P _ _ _ _ _ _ 56 [(5, .int (nI (zpn T k))), (4, .int (nI k)), (3, .int pb), (2, .int tb), (0, .ref 0), (1, .int s)] (.int 1 :: []) _ _
        refine ez_if_ne (tgt := 68) dX10_allDiffer_56 (by decide) (fun c5 => ?_) (fun c5 => absurd (by decide) c5)
        refine ez_iconst (v := 0) dX10_allDiffer_68 (by decide) ?_
        refine ez_iret dX10_allDiffer_69 rfl (by decide) ?_
        obtain ⟨q, h1, h2, h3⟩ := (hin.1 _ (by have := (zth_n hO.x hk).1; omega)).mp b4
        exact ⟨rfl, Or.inr ⟨fun g => g k hk q h1 ⟨b2, h2, Or.inl ((z_thq hO.x hk (by omega)).mp h3)⟩, rfl⟩⟩
      · show ez_P _ _ _ _ _ _ 56 [(5, .int (nI (zpn T k))), (4, .int (nI k)), (3, .int pb), (2, .int tb), (0, .ref 0), (1, .int s)] (.int 0 :: []) _ _
        refine ez_if_ne (tgt := 68) dX10_allDiffer_56 (by decide) (fun c6 => absurd c6 (by decide)) (fun c6 => ?_)
        refine ez_iload_n (i := 3) dX10_allDiffer_59 rfl rfl ?_
        refine ez_iload (i := 5) dX10_allDiffer_60 rfl ?_
        refine ez_callS (M1 := mX10_hasBit) (rest := []) dX10_allDiffer_62 mlX10_346 msX10_hasBit rfl (Nat.le_of_ble_eq_true rfl) rfl (zq_b (q_X10_hasBit (d + 19) pb (nI (zpn T k))) (n, sl, kd, I, L, Rf)) eb_bok ?_
        rintro _ _ ⟨rfl, ⟨b7, rfl⟩ | ⟨b7, rfl⟩⟩
        · show ez_P _ _ _ _ _ _ 65 [(5, .int (nI (zpn T k))), (4, .int (nI k)), (3, .int pb), (2, .int tb), (0, .ref 0), (1, .int s)] (.int 1 :: []) _ _
          refine ez_if_eq (tgt := 70) dX10_allDiffer_65 (by decide) (fun c8 => absurd c8 (by decide)) (fun c8 => ?_)
          refine ez_iconst (v := 0) dX10_allDiffer_68 (by decide) ?_
          refine ez_iret dX10_allDiffer_69 rfl (by decide) ?_
          obtain ⟨q, h1, h2, h3⟩ := (hin.2.1 _ (by have := (zpn_n hO.x hk).1; omega)).mp b7
          exact ⟨rfl, Or.inr ⟨fun g => g k hk q h1 ⟨b2, h2, Or.inr ((z_pnq hO.x hk (by omega)).mp h3)⟩, rfl⟩⟩
        · show ez_P _ _ _ _ _ _ 65 [(5, .int (nI (zpn T k))), (4, .int (nI k)), (3, .int pb), (2, .int tb), (0, .ref 0), (1, .int s)] (.int 0 :: []) _ _
          refine ez_if_eq (tgt := 70) dX10_allDiffer_65 (by decide) (fun c9 => ?_) (fun c9 => absurd (by decide) c9)
          refine ez_iload_n (i := 2) dX10_allDiffer_70 rfl rfl ?_
          refine ez_iconst (v := 1) dX10_allDiffer_71 (by decide) ?_
          refine ez_aload_n (i := 0) dX10_allDiffer_72 rfl rfl ?_
          refine ez_getR dX10_allDiffer_73 flX10_33 (hF.lt (by decide)) (hF.kc (by decide) rfl) (hF.pt 21 rfl) ?_
          refine ez_getR dX10_allDiffer_76 flX10_168 (hF.lt (by decide)) (hF.kc (by decide) rfl) (hF.pt 19 rfl) ?_
          refine ez_iload (i := 4) dX10_allDiffer_79 rfl ?_
          refine ez_iaN (k := k) dX10_allDiffer_81 (hF.lt (by decide)) (hF.ka (by decide) rfl) (by omega) (by decide) ?_
          refine ez_topE (y := nI (zth T k)) ((hK.C.sh.t _ (by omega)).trans (zth_n hO.x hk).2) ?_
          refine ez_ishl dX10_allDiffer_82 ?_
          refine ez_ior dX10_allDiffer_83 ?_
          refine ez_istore_n (l' := [(2, .int (tb ||| (1 <<< ((nI (zth T k)) &&& 31)))), (5, .int (nI (zpn T k))), (4, .int (nI k)), (3, .int pb), (0, .ref 0), (1, .int s)]) dX10_allDiffer_84 rfl (by decide) rfl ?_
          refine ez_iload_n (i := 3) dX10_allDiffer_85 rfl rfl ?_
          refine ez_iconst (v := 1) dX10_allDiffer_86 (by decide) ?_
          refine ez_iload (i := 5) dX10_allDiffer_87 rfl ?_
          refine ez_ishl dX10_allDiffer_89 ?_
          refine ez_ior dX10_allDiffer_90 ?_
          refine ez_istore_n (l' := [(3, .int (pb ||| (1 <<< ((nI (zpn T k)) &&& 31)))), (2, .int (tb ||| (1 <<< ((nI (zth T k)) &&& 31)))), (5, .int (nI (zpn T k))), (4, .int (nI k)), (0, .ref 0), (1, .int s)]) dX10_allDiffer_91 rfl (by decide) rfl ?_
          refine ez_iinc (v := (nI (k + 1))) (l' := [(4, .int ((nI (k + 1)))), (3, .int (pb ||| (1 <<< ((nI (zpn T k)) &&& 31)))), (2, .int (tb ||| (1 <<< ((nI (zth T k)) &&& 31)))), (5, .int (nI (zpn T k))), (0, .ref 0), (1, .int s)]) dX10_allDiffer_92 rfl (nI_1 _) (by decide) rfl ?_
          refine ez_goto (tgt := 7) dX10_allDiffer_95 (by decide) ?_
          refine ez_sub (l' := [(4, .int ((nI (k + 1)))), (3, .int (pb ||| (1 <<< ((nI (zpn T k)) &&& 31)))), (2, .int (tb ||| (1 <<< ((nI (zth T k)) &&& 31)))), (0, .ref 0), (1, .int s)]) [0, 1, 2, 4, 5] rfl ?_
          exact ez_eq (l2 := [(4, .int (nI (k + 1))), (3, .int (pb ||| (1 <<< ((nI (zpn T k)) &&& 31)))), (2, .int (tb ||| (1 <<< ((nI (zth T k)) &&& 31)))), (0, .ref 0), (1, .int s)]) rfl rfl rfl rfl (ih (tb ||| (1 <<< ((nI (zth T k)) &&& 31)), pb ||| (1 <<< ((nI (zpn T k)) &&& 31))) ⟨hin.1.s b2 (by have := (zth_n hO.x hk).1; omega), hin.2.1.s b2 (by have := (zpn_n hO.x hk).1; omega), fun p hp q hq g => by by_cases e : p = k; subst e; rcases g.2.2 with g1 | g1; exact b4 ((hin.1 _ (by have := (zth_n hO.x hk).1; omega)).mpr ⟨q, hq, g.2.1, (z_thq hO.x hk (by omega)).mpr g1⟩); exact b7 ((hin.2.1 _ (by have := (zpn_n hO.x hk).1; omega)).mpr ⟨q, hq, g.2.1, (z_pnq hO.x hk (by omega)).mpr g1⟩); exact hin.2.2 p (by omega) q hq g⟩)
    · show ez_P _ _ _ _ _ _ 25 [(4, .int (nI k)), (3, .int pb), (2, .int tb), (0, .ref 0), (1, .int s)] (.int 0 :: []) _ _
      refine ez_if_eq (tgt := 92) dX10_allDiffer_25 (by decide) (fun c10 => ?_) (fun c10 => absurd (by decide) c10)
      refine ez_iinc (v := (nI (k + 1))) (l' := [(4, .int ((nI (k + 1)))), (3, .int pb), (2, .int tb), (0, .ref 0), (1, .int s)]) dX10_allDiffer_92 rfl (nI_1 _) (by decide) rfl ?_
      refine ez_goto (tgt := 7) dX10_allDiffer_95 (by decide) ?_
      exact ez_eq (l2 := [(4, .int (nI (k + 1))), (3, .int pb), (2, .int tb), (0, .ref 0), (1, .int s)]) rfl rfl rfl rfl (ih (tb, pb) ⟨hin.1.n b2, hin.2.1.n b2, fun p hp q hq g => by by_cases e : p = k; rw [e] at g; exact b2 g.1; exact hin.2.2 p (by omega) q hq g⟩)
  · rintro ⟨tb, pb⟩ hin
    have hin : ztb (zth T) s T.c tb ∧ ztb (zpn T) s T.c pb ∧ ∀ p, p < T.c → ∀ q, q < p → ¬ zbd T s p q := hin
    show ez_P _ _ _ _ _ _ 7 [(4, .int (nI T.c)), (3, .int pb), (2, .int tb), (0, .ref 0), (1, .int s)] [] (n, sl, kd, I, L, Rf) _
    refine ez_iload (i := 4) dX10_allDiffer_7 rfl ?_
    refine ez_aload_n (i := 0) dX10_allDiffer_9 rfl rfl ?_
    refine ez_getR dX10_allDiffer_10 flX10_33 (hF.lt (by decide)) (hF.kc (by decide) rfl) (hF.pt 21 rfl) ?_
    refine ez_getI dX10_allDiffer_13 flX10_126 (hF.lt (by decide)) (hF.kc (by decide) rfl) ?_
    refine ez_topE (y := nI T.c) hK.C.sh.cr ?_
    refine ez_icmp_ge (tgt := 98) dX10_allDiffer_16 (by decide) (fun c11 => ?_) (fun c11 => absurd (nI_le (Nat.le_refl _) (by omega)) c11)
    refine ez_iconst (v := 1) dX10_allDiffer_98 (by decide) ?_
    refine ez_iret dX10_allDiffer_99 rfl (by decide) ?_
    exact ⟨rfl, Or.inl ⟨hin.2.2, rfl⟩⟩
theorem c_apart {n : Nat} {sl : Nat × Nat} {kd : Nat → Nat × Nat} {I : Nat → Nat → Int32} {L : Nat → Nat → Int64} {Rf : Nat → Nat → Option Nat} (d : Nat) {T : zT} {H : Nat} (hC : zC n kd I L Rf T) (hO : zOk H T) (hH : H ≤ 1000000000) : zq mX10_apart (d + 60) [.ref 0] (n, sl, kd, I, L, Rf) (zpC n sl kd I L Rf (some (.int (s_apart T).1)) (s_apart T).2) := by
  have hF := hC.F; have hc7 := hO.c
  have hK0 : zK n kd I L Rf I I L Rf T none none false := zK.start hC
  intro f B
  refine ez_meth pn_X.2.2.2.2.2.2.2.2.2.2.1 (Nat.le_of_ble_eq_true rfl) ?_
  show ez_P _ _ _ _ _ _ 0 [(0, .ref 0)] [] (n, sl, kd, I, L, Rf) _
  refine ez_iconst (v := 0) dX10_apart_0 (by decide) ?_
  refine ez_istore_n (l' := [(1, .int 0), (0, .ref 0)]) dX10_apart_1 rfl (by decide) rfl ?_
  refine ez_iconst (v := 0) dX10_apart_2 (by decide) ?_
  refine ez_istore_n (l' := [(2, .int 0), (1, .int 0), (0, .ref 0)]) dX10_apart_3 rfl (by decide) rfl ?_
  refine ez_iconst (v := 1) dX10_apart_4 (by decide) ?_
  refine ez_istore_n (l' := [(3, .int 1), (2, .int 0), (1, .int 0), (0, .ref 0)]) dX10_apart_5 rfl (by decide) rfl ?_
  refine ez_eq (l2 := [(3, .int (nI (0 + 1))), (2, .int 0), (1, .int 0), (0, .ref 0)]) (σ2 := (n, sl, kd, I, L, Rf)) rfl rfl rfl rfl ?_
  refine ez_for (zN T) (fun k (a : Int32 × Int32) => ([(3, .int (nI (k + 1))), (2, .int a.2), (1, .int a.1), (0, .ref 0)], (n, sl, kd, I, L, Rf))) (fun k a => a.2 = a_apart T k ∧ a.1 = z_bc a.2) ?_ ?_ (zN T) 0 (0, 0) (by omega) ⟨rfl, by decide⟩
  · rintro k ⟨mo, ch⟩ hk hin ih
    have hin : ch = a_apart T k ∧ mo = z_bc ch := hin
    show ez_P _ _ _ _ _ _ 6 [(3, .int (nI (k + 1))), (2, .int ch), (1, .int mo), (0, .ref 0)] [] (n, sl, kd, I, L, Rf) _
    refine ez_iload_n (i := 3) dX10_apart_6 rfl rfl ?_
    refine ez_iconst (v := 1) dX10_apart_7 (by decide) ?_
    refine ez_aload_n (i := 0) dX10_apart_8 rfl rfl ?_
    refine ez_getR dX10_apart_9 flX10_33 (hF.lt (by decide)) (hF.kc (by decide) rfl) (hF.pt 21 rfl) ?_
    refine ez_getI dX10_apart_12 flX10_126 (hF.lt (by decide)) (hF.kc (by decide) rfl) ?_
    refine ez_topE (y := nI T.c) hK0.C.sh.cr ?_
    refine ez_ishl dX10_apart_15 ?_
    refine ez_topE (y := nI (zN T + 1)) (zsh1 hc7) ?_
    refine ez_icmp_ge (tgt := 48) dX10_apart_16 (by decide) (fun c1 => absurd c1 (nI_ge (by omega) (by have := zN_le hc7; omega))) (fun c1 => ?_)
    refine ez_iload_n (i := 3) dX10_apart_19 rfl rfl ?_
    refine ez_callS (M1 := mJ6_bitCount_0f7a4) (rest := []) dX10_apart_20 mlX10_330 msJ6_bitCount_0f7a4 rfl (Nat.le_of_ble_eq_true rfl) rfl (zq_r (fun σ => q_J6_bitCount_0f7a4 (σ := σ) (d + 59) (nI (k + 1))) (n, sl, kd, I, L, Rf)) eb_rok ?_
    rintro _ _ ⟨rfl, rfl⟩
    show ez_P _ _ _ _ _ _ 23 [(3, .int (nI (k + 1))), (2, .int ch), (1, .int mo), (0, .ref 0)] (.int (z_bc (nI (k + 1))) :: []) _ _
    refine ez_iload_n (i := 1) dX10_apart_23 rfl rfl ?_
    refine ez_icmp_le (tgt := 42) dX10_apart_24 (by decide) (fun c2 => ?_) (fun c2 => ?_)
    · skip
      refine ez_iinc (v := (nI (k + 2))) (l' := [(3, .int ((nI (k + 2)))), (2, .int ch), (1, .int mo), (0, .ref 0)]) dX10_apart_42 rfl (nI_1 _) (by decide) rfl ?_
      refine ez_goto (tgt := 6) dX10_apart_45 (by decide) ?_
      exact ez_eq (l2 := [(3, .int (nI (k + 1 + 1))), (2, .int ch), (1, .int mo), (0, .ref 0)]) rfl rfl rfl rfl (ih (mo, ch) ⟨by rw [a_apart, b_apart, ← hin.1, ← hin.2, if_pos c2], hin.2⟩)
    · skip
      refine ez_aload_n (i := 0) dX10_apart_27 rfl rfl ?_
      refine ez_iload_n (i := 3) dX10_apart_28 rfl rfl ?_
      refine ez_callV (M1 := mX10_allDiffer) (rest := []) dX10_apart_29 mlX10_343 mvX10_allDiffer rfl (hF.lt (by decide)) (hF.kc (by decide) rfl) (Nat.le_of_ble_eq_true rfl) rfl (k_ald (T := T) (I := I) (L := L) (d + 39) hK0 hO hH (nI (k + 1))) eb_bok ?_
      rintro _ _ ⟨rfl, ⟨b3, rfl⟩ | ⟨b3, rfl⟩⟩
      · show ez_P _ _ _ _ _ _ 32 [(3, .int (nI (k + 1))), (2, .int ch), (1, .int mo), (0, .ref 0)] (.int 1 :: []) _ _
        refine ez_if_eq (tgt := 42) dX10_apart_32 (by decide) (fun c4 => absurd c4 (by decide)) (fun c4 => ?_)
        refine ez_iload_n (i := 3) dX10_apart_35 rfl rfl ?_
        refine ez_callS (M1 := mJ6_bitCount_0f7a4) (rest := []) dX10_apart_36 mlX10_330 msJ6_bitCount_0f7a4 rfl (Nat.le_of_ble_eq_true rfl) rfl (zq_r (fun σ => q_J6_bitCount_0f7a4 (σ := σ) (d + 59) (nI (k + 1))) (n, sl, kd, I, L, Rf)) eb_rok ?_
        rintro _ _ ⟨rfl, rfl⟩
        show ez_P _ _ _ _ _ _ 39 [(3, .int (nI (k + 1))), (2, .int ch), (1, .int mo), (0, .ref 0)] (.int (z_bc (nI (k + 1))) :: []) _ _
        refine ez_istore_n (l' := [(1, .int (z_bc (nI (k + 1)))), (3, .int (nI (k + 1))), (2, .int ch), (0, .ref 0)]) dX10_apart_39 rfl (by decide) rfl ?_
        refine ez_iload_n (i := 3) dX10_apart_40 rfl rfl ?_
        refine ez_istore_n (l' := [(2, .int (nI (k + 1))), (1, .int (z_bc (nI (k + 1)))), (3, .int (nI (k + 1))), (0, .ref 0)]) dX10_apart_41 rfl (by decide) rfl ?_
        refine ez_iinc (v := (nI (k + 2))) (l' := [(3, .int ((nI (k + 2)))), (2, .int (nI (k + 1))), (1, .int (z_bc (nI (k + 1)))), (0, .ref 0)]) dX10_apart_42 rfl (nI_1 _) (by decide) rfl ?_
        refine ez_goto (tgt := 6) dX10_apart_45 (by decide) ?_
        exact ez_eq (l2 := [(3, .int (nI (k + 1 + 1))), (2, .int (nI (k + 1))), (1, .int (z_bc (nI (k + 1)))), (0, .ref 0)]) rfl rfl rfl rfl (ih (z_bc (nI (k + 1)), nI (k + 1)) ⟨by rw [a_apart, b_apart, ← hin.1, ← hin.2, if_neg c2, if_pos b3], rfl⟩)
      · show ez_P _ _ _ _ _ _ 32 [(3, .int (nI (k + 1))), (2, .int ch), (1, .int mo), (0, .ref 0)] (.int 0 :: []) _ _
        refine ez_if_eq (tgt := 42) dX10_apart_32 (by decide) (fun c5 => ?_) (fun c5 => absurd (by decide) c5)
        refine ez_iinc (v := (nI (k + 2))) (l' := [(3, .int ((nI (k + 2)))), (2, .int ch), (1, .int mo), (0, .ref 0)]) dX10_apart_42 rfl (nI_1 _) (by decide) rfl ?_
        refine ez_goto (tgt := 6) dX10_apart_45 (by decide) ?_
        exact ez_eq (l2 := [(3, .int (nI (k + 1 + 1))), (2, .int ch), (1, .int mo), (0, .ref 0)]) rfl rfl rfl rfl (ih (mo, ch) ⟨by rw [a_apart, b_apart, ← hin.1, ← hin.2, if_neg c2, if_neg b3], hin.2⟩)
  · rintro ⟨mo, ch⟩ hin
    have hin : ch = a_apart T (zN T) ∧ mo = z_bc ch := hin
    show ez_P _ _ _ _ _ _ 6 [(3, .int (nI ((zN T) + 1))), (2, .int ch), (1, .int mo), (0, .ref 0)] [] (n, sl, kd, I, L, Rf) _
    refine ez_iload_n (i := 3) dX10_apart_6 rfl rfl ?_
    refine ez_iconst (v := 1) dX10_apart_7 (by decide) ?_
    refine ez_aload_n (i := 0) dX10_apart_8 rfl rfl ?_
    refine ez_getR dX10_apart_9 flX10_33 (hF.lt (by decide)) (hF.kc (by decide) rfl) (hF.pt 21 rfl) ?_
    refine ez_getI dX10_apart_12 flX10_126 (hF.lt (by decide)) (hF.kc (by decide) rfl) ?_
    refine ez_topE (y := nI T.c) hK0.C.sh.cr ?_
    refine ez_ishl dX10_apart_15 ?_
    refine ez_topE (y := nI (zN T + 1)) (zsh1 hc7) ?_
    refine ez_icmp_ge (tgt := 48) dX10_apart_16 (by decide) (fun c6 => ?_) (fun c6 => absurd (nI_le (by omega) (by have := zN_le hc7; omega)) c6)
    refine ez_aload_n (i := 0) dX10_apart_48 rfl rfl ?_
    refine ez_getR dX10_apart_49 flX10_19 (hF.lt (by decide)) (hF.kc (by decide) rfl) (hF.pt 3 rfl) ?_
    refine ez_iload_n (i := 2) dX10_apart_52 rfl rfl ?_
    refine ez_callV (M1 := mX4_tell) (rest := []) dX10_apart_53 mlX10_285 mvX4_tell rfl (hF.lt (by decide)) (hF.kc (by decide) rfl) (Nat.le_of_ble_eq_true rfl) rfl (y_X4_tell (I := I) (L := L) (d + 58) hF ch) z_tok ?_
    rintro _ _ ⟨rfl, I7, L8, rfl, hr9, ho10⟩
    show ez_P _ _ _ _ _ _ 56 [(3, .int (nI ((zN T) + 1))), (2, .int ch), (1, .int mo), (0, .ref 0)] [] (n, sl, kd, I7, L8, Rf) _
    have hK11 : zK n kd I L Rf I I7 L8 Rf (T.w_rw [ch.toInt64]) none none false := by exact hK0.tell hr9 ho10
    refine ez_iload_n (i := 1) dX10_apart_56 rfl rfl ?_
    refine ez_iret dX10_apart_57 rfl rfl ?_
    rw [show s_apart T = (mo, T.w_rw [ch.toInt64]) from by unfold s_apart; rw [← hin.1, hin.2]]
    exact hK11.end
