/-! steps, on the reference and on the class -/
def zfb {α : Type} (f : Nat → Option α) : Nat → Nat → Option α
  | 0, _ => none
  | j + 1, k => match f k with
    | some x => some x
    | none => zfb f j (k + 1)
theorem zfb_n {α : Type} {f : Nat → Option α} {j k : Nat} (h : f k = none) : zfb f (j + 1) k = zfb f j (k + 1) := by rw [zfb, h]
theorem zfb_s {α : Type} {f : Nat → Option α} {j k : Nat} {x : α} (h : f k = some x) : zfb f (j + 1) k = some x := by rw [zfb, h]
theorem zfb_step {α : Type} {f : Nat → Option α} {N k : Nat} {R : Option α} (h : zfb f (N - k) k = R) (hk : k < N) (hp : f k = none) : zfb f (N - (k + 1)) (k + 1) = R := by
  rw [show N - k = (N - (k + 1)) + 1 from by omega, zfb_n hp] at h; exact h
theorem zfb_hit {α : Type} {f : Nat → Option α} {N k : Nat} {R : Option α} {x : α} (h : zfb f (N - k) k = R) (hk : k < N) (hp : f k = some x) : R = some x := by
  rw [show N - k = (N - (k + 1)) + 1 from by omega, zfb_s hp] at h; exact h.symm
theorem zfb_end {α : Type} {f : Nat → Option α} {N k : Nat} {R : Option α} (h : zfb f (N - k) k = R) (hk : N ≤ k) : R = none := by rw [show N - k = 0 from by omega, zfb] at h; exact h.symm
/-- a telling, by its code -/
abbrev ztl (T : zT) (a : Nat) : Prop := a / 10 < T.c ∧ a % 10 < 6 ∧ ¬ T.x (7 + a / 10) = nI (a % 10)
def f1 (T : zT) (v : Int32) (a : Nat) : Option Nat := if ztl T a ∧ z_ab (zpl T (zup T.x (7 + a / 10) (nI (a % 10)))) ≤ v then some a else none
def f2 (T : zT) (v : Int32) (a b : Nat) : Option Nat := if (ztl T a ∧ ztl T b) ∧ z_ab (zpl T (zup (zup T.x (7 + a / 10) (nI (a % 10))) (7 + b / 10) (nI (b % 10)))) ≤ v then some b else none
def g2 (T : zT) (v : Int32) (a : Nat) : Option (Nat × Nat) := (zfb (f2 T v a) (10 * T.c - 10 * (a / 10 + 1)) (10 * (a / 10 + 1))).map (fun b => (a, b))
def s_steps (T : zT) (v : Int32) : Int32 × zT := if 0 ≤ v ∧ v ≤ 20 then (if z_ab (zpl T T.x) ≤ v then (0, T.w_rw []) else match zfb (f1 T v) (10 * T.c) 0 with
  | some a => (1, T.w_rw [(nI a).toInt64])
  | none => match zfb (g2 T v) (10 * T.c) 0 with
    | some p => (2, T.w_rw [(nI p.1).toInt64, (nI p.2).toInt64])
    | none => (-2, T)) else (-1, T)
def zpQx (n : Nat) (sl : Nat × Nat) (kd : Nat → Nat × Nat) (I0 : Nat → Nat → Int32) (L0 : Nat → Nat → Int64) (Rf : Nat → Nat → Option Nat) (g : Nat → Nat → Int32) (L : Nat → Nat → Int64) (T : zT) (x : Nat → Int32) (o : Int32) (v : Option Value) : Option Value → eb_S → Prop := fun r τ => r = v ∧ ∃ I1, τ = (n, sl, kd, I1, L, Rf) ∧ zQ n kd I0 L0 Rf g I1 L T x o
theorem zpQx_ok {n : Nat} {sl : Nat × Nat} {kd : Nat → Nat × Nat} {I0 g : Nat → Nat → Int32} {L0 L : Nat → Nat → Int64} {Rf : Nat → Nat → Option Nat} {T : zT} {x : Nat → Int32} {o : Int32} {v : Option Value} {l : List (Nat × Value)} {rest : List Value} : ∀ r1 σ1, zpQx n sl kd I0 L0 Rf g L T x o v r1 σ1 → σ1.1 = n ∨ ((∀ q ∈ l, eb_okv n q.2) ∧ ∀ v ∈ rest, eb_okv n v) := fun _ _ h => Or.inl (by obtain ⟨_, I1, h, _⟩ := h; rw [h])
theorem y_X11_stands {n : Nat} {sl : Nat × Nat} {kd : Nat → Nat × Nat} {I : Nat → Nat → Int32} {L : Nat → Nat → Int64} {Rf : Nat → Nat → Option Nat} (d : Nat) {T : zT} {H : Nat} {I0 g : Nat → Nat → Int32} {L0 : Nat → Nat → Int64} {x : Nat → Int32} {o : Int32} (hQ : zQ n kd I0 L0 Rf g I L T x o) (hO : zOk H T) (hH : H ≤ 1000000000) {H2 : Nat} (hxr : zxr T.c H2 x) (hH2 : H2 ≤ 1000000000) (v : Int32)  : zq mX11_stands (d + 350) [.ref 112, .int v] (n, sl, kd, I, L, Rf) (eb_b (z_ab (zpl T x) ≤ v) (n, sl, kd, I, L, Rf)) := by
  have hF := hQ.M.F; have hc7 := hO.c
  intro f B
  refine ez_meth pn_X.2.2.2.2.2.2.2.2.2.2.2 (Nat.le_of_ble_eq_true rfl) ?_
  show ez_P _ _ _ _ _ _ 0 [(0, .ref 112), (1, .int v)] [] (n, sl, kd, I, L, Rf) _
  refine ez_aload_n (i := 0) dX11_stands_0 rfl rfl ?_
  refine ez_aload_n (i := 0) dX11_stands_1 rfl rfl ?_
  refine ez_getR dX11_stands_2 flX11_49 (hF.lt (by decide)) (hF.kc (by decide) rfl) (hF.pt 117 rfl) ?_
  refine ez_callV (M1 := mX11_pullOf) (rest := []) dX11_stands_5 mlX11_277 mvX11_pullOf rfl (hF.lt (by decide)) (hF.kc (by decide) rfl) (Nat.le_of_ble_eq_true rfl) rfl (y_pl (I := I) (L := L) (d + 40) hQ.M.W hc7 (Or.inr rfl) hQ.x hxr (by omega) hO.wm) eb_rok ?_
  rintro _ _ ⟨rfl, rfl⟩
  show ez_P _ _ _ _ _ _ 8 [(0, .ref 112), (1, .int v)] (.int (zpl T x) :: []) _ _
  refine ez_abs dX11_stands_8 xmX11_192 (Nat.le_of_ble_eq_true rfl) ?_
  refine ez_topE (y := z_ab (zpl T x)) rfl ?_
  refine ez_iload_n (i := 1) dX11_stands_11 rfl rfl ?_
  refine ez_icmp_gt (tgt := 19) dX11_stands_12 (by decide) (fun c1 => ?_) (fun c1 => ?_)
  · skip
    refine ez_iconst (v := 0) dX11_stands_19 (by decide) ?_
    refine ez_iret dX11_stands_20 rfl (by decide) ?_
    exact ⟨rfl, Or.inr ⟨Int32.not_le.mpr c1, rfl⟩⟩
  · skip
    refine ez_iconst (v := 1) dX11_stands_15 (by decide) ?_
    refine ez_goto (tgt := 20) dX11_stands_16 (by decide) ?_
    refine ez_iret dX11_stands_20 rfl (by decide) ?_
    exact ⟨rfl, Or.inl ⟨Int32.not_lt.mp c1, rfl⟩⟩
theorem y_X11_isTelling {n : Nat} {sl : Nat × Nat} {kd : Nat → Nat × Nat} {I : Nat → Nat → Int32} {L : Nat → Nat → Int64} {Rf : Nat → Nat → Option Nat} (d : Nat) {T : zT} {H : Nat} {I0 g : Nat → Nat → Int32} {L0 : Nat → Nat → Int64} {x : Nat → Int32} {o : Int32} (hQ : zQ n kd I0 L0 Rf g I L T x o) (hO : zOk H T) (hH : H ≤ 1000000000) {a : Nat} (ha : a < 70)  : zq mX11_isTelling (d + 20) [.ref 112, .int (nI a)] (n, sl, kd, I, L, Rf) (eb_b (ztl T a) (n, sl, kd, I, L, Rf)) := by
  have hF := hQ.M.F; have hc7 := hO.c
  intro f B
  refine ez_meth pn_X.2.2.2.2.2.2.2.2.2.2.2 (Nat.le_of_ble_eq_true rfl) ?_
  show ez_P _ _ _ _ _ _ 0 [(0, .ref 112), (1, .int (nI a))] [] (n, sl, kd, I, L, Rf) _
  refine ez_aload_n (i := 0) dX11_isTelling_0 rfl rfl ?_
  refine ez_iload_n (i := 1) dX11_isTelling_1 rfl rfl ?_
  refine ez_bipush (v := 10) dX11_isTelling_2 (by decide) ?_
  refine ez_idiv dX11_isTelling_4 (by decide) ?_
  refine ez_topE (y := nI (a / 10)) (z_idv (a := a) (m := 10) (by omega) (by decide)) ?_
  refine ez_callV (M1 := mX11_isOne) (rest := []) dX11_isTelling_5 mlX11_221 mvX11_isOne rfl (hF.lt (by decide)) (hF.kc (by decide) rfl) (Nat.le_of_ble_eq_true rfl) rfl (y_X11_isOne (I := I) (L := L) (d + 18) hF hQ.M.c hO.c (nI (a / 10))) eb_bok ?_
  rintro _ _ ⟨rfl, ⟨b1, rfl⟩ | ⟨b1, rfl⟩⟩
  · show ez_P _ _ _ _ _ _ 8 [(0, .ref 112), (1, .int (nI a))] (.int 1 :: []) _ _
    refine ez_if_eq (tgt := 43) dX11_isTelling_8 (by decide) (fun c2 => absurd c2 (by decide)) (fun c2 => ?_)
    have hac7 : a / 10 < T.c := (nI_ltI (by omega) (by omega)).mp b1.2
    refine ez_iload_n (i := 1) dX11_isTelling_11 rfl rfl ?_
    refine ez_bipush (v := 10) dX11_isTelling_12 (by decide) ?_
    refine ez_irem dX11_isTelling_14 (by decide) ?_
    refine ez_topE (y := nI (a % 10)) (z_irm (a := a) (m := 10) (by omega) (by decide) (by decide)) ?_
    refine ez_bipush (v := 6) dX11_isTelling_15 (by decide) ?_
    refine ez_icmp_ge (tgt := 43) dX11_isTelling_17 (by decide) (fun c3 => ?_) (fun c3 => ?_)
    · skip
      refine ez_iconst (v := 0) dX11_isTelling_43 (by decide) ?_
      refine ez_iret dX11_isTelling_44 rfl (by decide) ?_
      exact ⟨rfl, Or.inr ⟨fun g => absurd (nI_lt (b := 6) g.2.1 (by decide)) (Int32.not_lt.mpr c3), rfl⟩⟩
    · skip
      refine ez_aload_n (i := 0) dX11_isTelling_20 rfl rfl ?_
      refine ez_getR dX11_isTelling_21 flX11_9 (hF.lt (by decide)) (hF.kc (by decide) rfl) (hF.pt 107 rfl) ?_
      refine ez_bipush (v := 7) dX11_isTelling_24 (by decide) ?_
      refine ez_iload_n (i := 1) dX11_isTelling_26 rfl rfl ?_
      refine ez_bipush (v := 10) dX11_isTelling_27 (by decide) ?_
      refine ez_idiv dX11_isTelling_29 (by decide) ?_
      refine ez_topE (y := nI (a / 10)) (z_idv (a := a) (m := 10) (by omega) (by decide)) ?_
      refine ez_iadd dX11_isTelling_30 ?_
      refine ez_topE (y := nI (7 + (a / 10))) (nI_add _ _) ?_
      refine ez_iaN (k := (7 + (a / 10))) dX11_isTelling_31 (hF.lt (by decide)) (hF.ka (by decide) rfl) (by omega) (by decide) ?_
      refine ez_topE (y := T.x (7 + (a / 10))) (hQ.M.x _ (by omega)) ?_
      refine ez_iload_n (i := 1) dX11_isTelling_32 rfl rfl ?_
      refine ez_bipush (v := 10) dX11_isTelling_33 (by decide) ?_
      refine ez_irem dX11_isTelling_35 (by decide) ?_
      refine ez_topE (y := nI (a % 10)) (z_irm (a := a) (m := 10) (by omega) (by decide) (by decide)) ?_
      refine ez_icmp_eq (tgt := 43) dX11_isTelling_36 (by decide) (fun c4 => ?_) (fun c4 => ?_)
      · skip
        refine ez_iconst (v := 0) dX11_isTelling_43 (by decide) ?_
        refine ez_iret dX11_isTelling_44 rfl (by decide) ?_
        exact ⟨rfl, Or.inr ⟨fun g => g.2.2 c4, rfl⟩⟩
      · skip
        refine ez_iconst (v := 1) dX11_isTelling_39 (by decide) ?_
        refine ez_goto (tgt := 44) dX11_isTelling_40 (by decide) ?_
        refine ez_iret dX11_isTelling_44 rfl (by decide) ?_
        exact ⟨rfl, Or.inl ⟨⟨hac7, (nI_ltI (b := 6) (by omega) (by decide)).mp (Int32.not_le.mp c3), c4⟩, rfl⟩⟩
  · show ez_P _ _ _ _ _ _ 8 [(0, .ref 112), (1, .int (nI a))] (.int 0 :: []) _ _
    refine ez_if_eq (tgt := 43) dX11_isTelling_8 (by decide) (fun c5 => ?_) (fun c5 => absurd (by decide) c5)
    refine ez_iconst (v := 0) dX11_isTelling_43 (by decide) ?_
    refine ez_iret dX11_isTelling_44 rfl (by decide) ?_
    exact ⟨rfl, Or.inr ⟨fun g => b1 (z_bin g.1 hO.c), rfl⟩⟩
theorem y_X11_think {n : Nat} {sl : Nat × Nat} {kd : Nat → Nat × Nat} {I : Nat → Nat → Int32} {L : Nat → Nat → Int64} {Rf : Nat → Nat → Option Nat} (d : Nat) {T : zT} {H : Nat} {I0 g : Nat → Nat → Int32} {L0 : Nat → Nat → Int64} {x : Nat → Int32} {o : Int32} (hQ : zQ n kd I0 L0 Rf g I L T x o) (hO : zOk H T) (hH : H ≤ 1000000000) {a : Nat} (ha : a < 70)  : zq mX11_think (d + 20) [.ref 112, .int (nI a)] (n, sl, kd, I, L, Rf) (zpQx n sl kd I0 L0 Rf g L T (zup x (7 + a / 10) (nI (a % 10))) o none) := by
  have hF := hQ.M.F; have hc7 := hO.c
  intro f B
  refine ez_meth pn_X.2.2.2.2.2.2.2.2.2.2.2 (Nat.le_of_ble_eq_true rfl) ?_
  show ez_P _ _ _ _ _ _ 0 [(0, .ref 112), (1, .int (nI a))] [] (n, sl, kd, I, L, Rf) _
  refine ez_aload_n (i := 0) dX11_think_0 rfl rfl ?_
  refine ez_getR dX11_think_1 flX11_49 (hF.lt (by decide)) (hF.kc (by decide) rfl) (hF.pt 117 rfl) ?_
  refine ez_bipush (v := 7) dX11_think_4 (by decide) ?_
  refine ez_iload_n (i := 1) dX11_think_6 rfl rfl ?_
  refine ez_bipush (v := 10) dX11_think_7 (by decide) ?_
  refine ez_idiv dX11_think_9 (by decide) ?_
  refine ez_topE (y := nI (a / 10)) (z_idv (a := a) (m := 10) (by omega) (by decide)) ?_
  refine ez_iadd dX11_think_10 ?_
  refine ez_topE (y := nI (7 + (a / 10))) (nI_add _ _) ?_
  refine ez_iload_n (i := 1) dX11_think_11 rfl rfl ?_
  refine ez_bipush (v := 10) dX11_think_12 (by decide) ?_
  refine ez_irem dX11_think_14 (by decide) ?_
  refine ez_topE (y := nI (a % 10)) (z_irm (a := a) (m := 10) (by omega) (by decide) (by decide)) ?_
  refine ez_isN (k := (7 + (a / 10))) dX11_think_15 (hF.lt (by decide)) (hF.lx (by decide)) (hF.ka (by decide) rfl) (by omega) (by decide) ?_
  refine ez_nmI (fun I1 hI1 => ?_)
  have hQ2 : zQ n kd I0 L0 Rf g I1 L T (zup x (7 + (a / 10)) (nI (a % 10))) o := by rw [hI1]; exact hQ.set
  refine ez_vret dX11_think_16 rfl ?_
  exact ⟨rfl, _, rfl, hQ2⟩
theorem y_X11_unthink {n : Nat} {sl : Nat × Nat} {kd : Nat → Nat × Nat} {I : Nat → Nat → Int32} {L : Nat → Nat → Int64} {Rf : Nat → Nat → Option Nat} (d : Nat) {T : zT} {H : Nat} {I0 g : Nat → Nat → Int32} {L0 : Nat → Nat → Int64} {x : Nat → Int32} {o : Int32} (hQ : zQ n kd I0 L0 Rf g I L T x o) (hO : zOk H T) (hH : H ≤ 1000000000) {a : Nat} (ha : a < 70)  : zq mX11_unthink (d + 20) [.ref 112, .int (nI a)] (n, sl, kd, I, L, Rf) (zpQx n sl kd I0 L0 Rf g L T (zup x (7 + a / 10) (T.x (7 + a / 10))) o none) := by
  have hF := hQ.M.F; have hc7 := hO.c
  intro f B
  refine ez_meth pn_X.2.2.2.2.2.2.2.2.2.2.2 (Nat.le_of_ble_eq_true rfl) ?_
  show ez_P _ _ _ _ _ _ 0 [(0, .ref 112), (1, .int (nI a))] [] (n, sl, kd, I, L, Rf) _
  refine ez_aload_n (i := 0) dX11_unthink_0 rfl rfl ?_
  refine ez_getR dX11_unthink_1 flX11_49 (hF.lt (by decide)) (hF.kc (by decide) rfl) (hF.pt 117 rfl) ?_
  refine ez_bipush (v := 7) dX11_unthink_4 (by decide) ?_
  refine ez_iload_n (i := 1) dX11_unthink_6 rfl rfl ?_
  refine ez_bipush (v := 10) dX11_unthink_7 (by decide) ?_
  refine ez_idiv dX11_unthink_9 (by decide) ?_
  refine ez_topE (y := nI (a / 10)) (z_idv (a := a) (m := 10) (by omega) (by decide)) ?_
  refine ez_iadd dX11_unthink_10 ?_
  refine ez_topE (y := nI (7 + (a / 10))) (nI_add _ _) ?_
  refine ez_aload_n (i := 0) dX11_unthink_11 rfl rfl ?_
  refine ez_getR dX11_unthink_12 flX11_9 (hF.lt (by decide)) (hF.kc (by decide) rfl) (hF.pt 107 rfl) ?_
  refine ez_bipush (v := 7) dX11_unthink_15 (by decide) ?_
  refine ez_iload_n (i := 1) dX11_unthink_17 rfl rfl ?_
  refine ez_bipush (v := 10) dX11_unthink_18 (by decide) ?_
  refine ez_idiv dX11_unthink_20 (by decide) ?_
  refine ez_topE (y := nI (a / 10)) (z_idv (a := a) (m := 10) (by omega) (by decide)) ?_
  refine ez_iadd dX11_unthink_21 ?_
  refine ez_topE (y := nI (7 + (a / 10))) (nI_add _ _) ?_
  refine ez_iaN (k := (7 + (a / 10))) dX11_unthink_22 (hF.lt (by decide)) (hF.ka (by decide) rfl) (by omega) (by decide) ?_
  refine ez_topE (y := T.x (7 + (a / 10))) (hQ.M.x _ (by omega)) ?_
  refine ez_isN (k := (7 + (a / 10))) dX11_unthink_23 (hF.lt (by decide)) (hF.lx (by decide)) (hF.ka (by decide) rfl) (by omega) (by decide) ?_
  refine ez_nmI (fun I1 hI1 => ?_)
  have hQ2 : zQ n kd I0 L0 Rf g I1 L T (zup x (7 + (a / 10)) (T.x (7 + (a / 10)))) o := by rw [hI1]; exact hQ.set
  refine ez_vret dX11_unthink_24 rfl ?_
  exact ⟨rfl, _, rfl, hQ2⟩
theorem zup4t {x : Nat → Int32} {p q : Nat} {u v : Int32} (h : p ≠ q) : x = zup (zup (zup (zup x (7 + p) u) (7 + q) v) (7 + p) (x (7 + p))) (7 + q) (x (7 + q)) := by
  funext k
  simp only [zup]
  by_cases h1 : k = 7 + q
  · rw [if_pos h1, h1]
  · rw [if_neg h1]
    by_cases h2 : k = 7 + p
    · rw [if_pos h2, h2]
    · rw [if_neg h2, if_neg h1, if_neg h2]
theorem y_X11_steps_ok {n : Nat} {sl : Nat × Nat} {kd : Nat → Nat × Nat} {I : Nat → Nat → Int32} {L : Nat → Nat → Int64} {Rf : Nat → Nat → Option Nat} (d : Nat) {T : zT} {H : Nat} (hM : zM n kd I L Rf T) (hO : zOk H T) (hH : H ≤ 1000000000) {v : Int32} (hn : 0 ≤ v ∧ v ≤ 20)  : zq mX11_steps (d + 400) [.ref 112, .int v] (n, sl, kd, I, L, Rf) (zpM n sl kd I L Rf (some (.int (s_steps T v).1)) (s_steps T v).2) := by
  have hF := hM.F; have hc7 := hO.c
  intro f B
  refine ez_meth pn_X.2.2.2.2.2.2.2.2.2.2.2 (Nat.le_of_ble_eq_true rfl) ?_
  show ez_P _ _ _ _ _ _ 0 [(0, .ref 112), (1, .int v)] [] (n, sl, kd, I, L, Rf) _
  refine ez_aload_n (i := 0) dX11_steps_0 rfl rfl ?_
  refine ez_iconst (v := 0) dX11_steps_1 (by decide) ?_
  refine ez_pI dX11_steps_2 plX11_89 (hF.lt (by decide)) (hF.lx (by decide)) (hF.kc (by decide) rfl) rfl rfl ?_
  refine ez_nmI (fun I1 hI1 => ?_)
  have hQ2 : zQ n kd I L Rf I I1 L T (I 124) (I 112 25) := by rw [hI1]; exact zQ.start hM
  refine ez_iload_n (i := 1) dX11_steps_5 rfl rfl ?_
  refine ez_iconst (v := 0) dX11_steps_6 (by decide) ?_
  refine ez_bipush (v := 20) dX11_steps_7 (by decide) ?_
  refine ez_callS (M1 := mX11_in) (rest := []) dX11_steps_9 mlX11_98 msX11_in rfl (Nat.le_of_ble_eq_true rfl) rfl (zq_b1 hn (zq_b (q_X11_in (d + 399) v 0 20) (n, sl, kd, I1, L, Rf))) eb_rok ?_
  rintro _ _ ⟨rfl, rfl⟩
  show ez_P _ _ _ _ _ _ 12 [(0, .ref 112), (1, .int v)] (.int 1 :: []) _ _
  refine ez_if_ne (tgt := 17) dX11_steps_12 (by decide) (fun c3 => ?_) (fun c3 => absurd (by decide) c3)
  refine ez_aload_n (i := 0) dX11_steps_17 rfl rfl ?_
  refine ez_getR dX11_steps_18 flX11_9 (hF.lt (by decide)) (hF.kc (by decide) rfl) (hF.pt 107 rfl) ?_
  refine ez_aload_n (i := 0) dX11_steps_21 rfl rfl ?_
  refine ez_getR dX11_steps_22 flX11_49 (hF.lt (by decide)) (hF.kc (by decide) rfl) (hF.pt 117 rfl) ?_
  refine ez_iconst (v := 0) dX11_steps_25 (by decide) ?_
  refine ez_callS (M1 := mX11_lay) (rest := []) dX11_steps_26 mlX11_231 msX11_lay rfl (Nat.le_of_ble_eq_true rfl) rfl (y_lay0 (I := I1) (L := L) (d + 399) hF) (eb_vok rfl) ?_
  rintro _ _ ⟨rfl, rfl⟩
  refine ez_nmI (fun I4 hI4 => ?_)
  show ez_P _ _ _ _ _ _ 29 [(0, .ref 112), (1, .int v)] [] (n, sl, kd, I4, L, Rf) _
  have hQ5 : zQ n kd I L Rf I I4 L T T.x (I 112 25) := by rw [hI4]; exact hQ2.lay
  refine ez_aload_n (i := 0) dX11_steps_29 rfl rfl ?_
  refine ez_iload_n (i := 1) dX11_steps_30 rfl rfl ?_
  refine ez_callV (M1 := mX11_stands) (rest := []) dX11_steps_31 mlX11_285 mvX11_stands rfl (hF.lt (by decide)) (hF.kc (by decide) rfl) (Nat.le_of_ble_eq_true rfl) rfl (y_X11_stands (I := I4) (L := L) (d + 49) hQ5 hO hH hO.x (by omega) v) eb_bok ?_
  rintro _ _ ⟨rfl, ⟨b6, rfl⟩ | ⟨b6, rfl⟩⟩
  · show ez_P _ _ _ _ _ _ 34 [(0, .ref 112), (1, .int v)] (.int 1 :: []) _ _
    refine ez_if_eq (tgt := 44) dX11_steps_34 (by decide) (fun c7 => absurd c7 (by decide)) (fun c7 => ?_)
    refine ez_aload_n (i := 0) dX11_steps_37 rfl rfl ?_
    refine ez_iconst (v := 0) dX11_steps_38 (by decide) ?_
    refine ez_pI dX11_steps_39 plX11_92 (hF.lt (by decide)) (hF.lx (by decide)) (hF.kc (by decide) rfl) rfl rfl ?_
    refine ez_nmI (fun I8 hI8 => ?_)
    have hQ9 : zQ n kd I L Rf I I8 L (T.w_rw []) T.x (I 112 25) := by rw [hI8]; exact hQ5.row0
    refine ez_iconst (v := 0) dX11_steps_42 (by decide) ?_
    refine ez_iret dX11_steps_43 rfl rfl ?_
    rw [show s_steps T v = (0, T.w_rw []) from by unfold s_steps; rw [if_pos hn, if_pos b6]]
    exact hQ9.end
  · show ez_P _ _ _ _ _ _ 34 [(0, .ref 112), (1, .int v)] (.int 0 :: []) _ _
    refine ez_if_eq (tgt := 44) dX11_steps_34 (by decide) (fun c10 => ?_) (fun c10 => absurd (by decide) c10)
    have hst : ¬ z_ab (zpl T T.x) ≤ v := b6
    refine ez_iconst (v := 0) dX11_steps_44 (by decide) ?_
    refine ez_istore_n (l' := [(2, .int 0), (0, .ref 112), (1, .int v)]) dX11_steps_45 rfl (by decide) rfl ?_
    refine ez_eq (l2 := [(2, .int (nI 0)), (0, .ref 112), (1, .int v)]) (σ2 := (n, sl, kd, I4, L, Rf)) rfl rfl rfl rfl ?_
    refine ez_for (10 * T.c) (fun k (a : (Nat → Nat → Int32) × (Nat → Nat → Int64) × Int32) => ([(2, .int (nI k)), (0, .ref 112), (1, .int v)], (n, sl, kd, a.1, a.2.1, Rf))) (fun k a => zQ n kd I L Rf I a.1 a.2.1 T T.x a.2.2 ∧ zfb (f1 T v) (10 * T.c - k) k = zfb (f1 T v) (10 * T.c) 0) ?_ ?_ (10 * T.c) 0 (I4, L, I 112 25) (by omega) ⟨hQ5, rfl⟩
    · rintro k ⟨Ia, La, oa⟩ hk ⟨hQ0, hex⟩ ih
      have hQ0 : zQ n kd I L Rf I Ia La T T.x oa := hQ0
      have hex : zfb (f1 T v) (10 * T.c - k) k = zfb (f1 T v) (10 * T.c) 0 := hex
      show ez_P _ _ _ _ _ _ 46 [(2, .int (nI k)), (0, .ref 112), (1, .int v)] [] (n, sl, kd, Ia, La, Rf) _
      refine ez_iload_n (i := 2) dX11_steps_46 rfl rfl ?_
      refine ez_bipush (v := 10) dX11_steps_47 (by decide) ?_
      refine ez_aload_n (i := 0) dX11_steps_49 rfl rfl ?_
      refine ez_getI dX11_steps_50 flX11_95 (hF.lt (by decide)) (hF.kc (by decide) rfl) ?_
      refine ez_topE (y := nI T.c) hQ0.M.c ?_
      refine ez_imul dX11_steps_53 ?_
      refine ez_topE (y := nI (10 * T.c)) (nI_mul _ _) ?_
      refine ez_icmp_ge (tgt := 110) dX11_steps_54 (by decide) (fun c11 => absurd c11 (nI_ge hk (by omega))) (fun c11 => ?_)
      refine ez_aload_n (i := 0) dX11_steps_57 rfl rfl ?_
      refine ez_iload_n (i := 2) dX11_steps_58 rfl rfl ?_
      refine ez_callV (M1 := mX11_isTelling) (rest := []) dX11_steps_59 mlX11_288 mvX11_isTelling rfl (hF.lt (by decide)) (hF.kc (by decide) rfl) (Nat.le_of_ble_eq_true rfl) rfl (y_X11_isTelling (I := Ia) (L := La) (d + 379) hQ0 hO hH (a := k) (by omega)) eb_bok ?_
      rintro _ _ ⟨rfl, ⟨b12, rfl⟩ | ⟨b12, rfl⟩⟩
      · show ez_P _ _ _ _ _ _ 62 [(2, .int (nI k)), (0, .ref 112), (1, .int v)] (.int 1 :: []) _ _
        refine ez_if_ne (tgt := 68) dX11_steps_62 (by decide) (fun c13 => ?_) (fun c13 => absurd (by decide) c13)
        refine ez_aload_n (i := 0) dX11_steps_68 rfl rfl ?_
        refine ez_iload_n (i := 2) dX11_steps_69 rfl rfl ?_
        refine ez_callV (M1 := mX11_think) (rest := []) dX11_steps_70 mlX11_291 mvX11_think rfl (hF.lt (by decide)) (hF.kc (by decide) rfl) (Nat.le_of_ble_eq_true rfl) rfl (y_X11_think (I := Ia) (L := La) (d + 379) hQ0 hO hH (a := k) (by omega)) zpQx_ok ?_
        rintro _ _ ⟨rfl, I14, rfl, hQ15⟩
        show ez_P _ _ _ _ _ _ 73 [(2, .int (nI k)), (0, .ref 112), (1, .int v)] [] (n, sl, kd, I14, La, Rf) _
        have hQ15 : zQ n kd I L Rf I I14 La T (zup T.x (7 + k / 10) (nI (k % 10))) oa := hQ15
        refine ez_aload_n (i := 0) dX11_steps_73 rfl rfl ?_
        refine ez_iload_n (i := 1) dX11_steps_74 rfl rfl ?_
        refine ez_callV (M1 := mX11_stands) (rest := []) dX11_steps_75 mlX11_285 mvX11_stands rfl (hF.lt (by decide)) (hF.kc (by decide) rfl) (Nat.le_of_ble_eq_true rfl) rfl (y_X11_stands (I := I14) (L := La) (d + 49) hQ15 hO hH (hO.x.tho hO.c (b := k / 10) (by omega) ⟨k % 10, b12.2.1, rfl⟩) (by omega) v) eb_bok ?_
        rintro _ _ ⟨rfl, ⟨b16, rfl⟩ | ⟨b16, rfl⟩⟩
        · show ez_P _ _ _ _ _ _ 78 [(2, .int (nI k)), (0, .ref 112), (1, .int v)] (.int 1 :: []) _ _
          refine ez_istore_n (l' := [(3, .int 1), (2, .int (nI k)), (0, .ref 112), (1, .int v)]) dX11_steps_78 rfl (by decide) rfl ?_
          refine ez_aload_n (i := 0) dX11_steps_79 rfl rfl ?_
          refine ez_iload_n (i := 2) dX11_steps_80 rfl rfl ?_
          refine ez_callV (M1 := mX11_unthink) (rest := []) dX11_steps_81 mlX11_294 mvX11_unthink rfl (hF.lt (by decide)) (hF.kc (by decide) rfl) (Nat.le_of_ble_eq_true rfl) rfl (y_X11_unthink (I := I14) (L := La) (d + 379) hQ15 hO hH (a := k) (by omega)) zpQx_ok ?_
          rintro _ _ ⟨rfl, I17, rfl, hQ18⟩
          show ez_P _ _ _ _ _ _ 84 [(3, .int 1), (2, .int (nI k)), (0, .ref 112), (1, .int v)] [] (n, sl, kd, I17, La, Rf) _
          have hQ18 : zQ n kd I L Rf I I17 La T (zup (zup T.x (7 + k / 10) (nI (k % 10))) (7 + k / 10) (T.x (7 + k / 10))) oa := hQ18
          have hQ19 : zQ n kd I L Rf I I17 La T T.x oa := by rw [show T.x = zup (zup T.x (7 + k / 10) (nI (k % 10))) (7 + k / 10) (T.x (7 + k / 10)) from by rw [zup_zup, zup_id]]; exact hQ18
          refine ez_iload_n (i := 3) dX11_steps_84 rfl rfl ?_
          refine ez_if_ne (tgt := 91) dX11_steps_85 (by decide) (fun c20 => ?_) (fun c20 => absurd (by decide) c20)
          refine ez_aload_n (i := 0) dX11_steps_91 rfl rfl ?_
          refine ez_iconst (v := 0) dX11_steps_92 (by decide) ?_
          refine ez_pI dX11_steps_93 plX11_92 (hF.lt (by decide)) (hF.lx (by decide)) (hF.kc (by decide) rfl) rfl rfl ?_
          refine ez_nmI (fun I21 hI21 => ?_)
          have hQ22 : zQ n kd I L Rf I I21 La (T.w_rw []) T.x oa := by rw [hI21]; exact hQ19.row0
          refine ez_aload_n (i := 0) dX11_steps_96 rfl rfl ?_
          refine ez_iload_n (i := 2) dX11_steps_97 rfl rfl ?_
          refine ez_i2l dX11_steps_98 rfl ?_
          refine ez_callV (M1 := mX11_tell) (rest := []) dX11_steps_99 mlX11_252 mvX11_tell rfl (hF.lt (by decide)) (hF.kc (by decide) rfl) (Nat.le_of_ble_eq_true rfl) rfl (y_X11_tell (I := I21) (L := La) (d + 399) hF (k := 0) hQ22.M.rw.1 (by decide) ((nI k).toInt64)) (eb_vok rfl) ?_
          rintro _ _ ⟨rfl, rfl⟩
          refine ez_nmI (fun I23 hI23 => ?_)
          refine ez_nmL (fun L24 hL24 => ?_)
          show ez_P _ _ _ _ _ _ 102 [(3, .int 1), (2, .int (nI k)), (0, .ref 112), (1, .int v)] [] (n, sl, kd, I23, L24, Rf) _
          have hQ25 : zQ n kd I L Rf I I23 L24 (T.w_rw [(nI k).toInt64]) T.x oa := by rw [hI23, hL24]; exact hQ22.tell ((nI k).toInt64)
          refine ez_iconst (v := 1) dX11_steps_102 (by decide) ?_
          refine ez_iret dX11_steps_103 rfl rfl ?_
          rw [show s_steps T v = (1, T.w_rw [(nI k).toInt64]) from by unfold s_steps; rw [if_pos hn, if_neg hst, zfb_hit hex hk (x := k) (by unfold f1; exact if_pos ⟨b12, b16⟩)]]
          exact hQ25.end
        · show ez_P _ _ _ _ _ _ 78 [(2, .int (nI k)), (0, .ref 112), (1, .int v)] (.int 0 :: []) _ _
          refine ez_istore_n (l' := [(3, .int 0), (2, .int (nI k)), (0, .ref 112), (1, .int v)]) dX11_steps_78 rfl (by decide) rfl ?_
          refine ez_aload_n (i := 0) dX11_steps_79 rfl rfl ?_
          refine ez_iload_n (i := 2) dX11_steps_80 rfl rfl ?_
          refine ez_callV (M1 := mX11_unthink) (rest := []) dX11_steps_81 mlX11_294 mvX11_unthink rfl (hF.lt (by decide)) (hF.kc (by decide) rfl) (Nat.le_of_ble_eq_true rfl) rfl (y_X11_unthink (I := I14) (L := La) (d + 379) hQ15 hO hH (a := k) (by omega)) zpQx_ok ?_
          rintro _ _ ⟨rfl, I26, rfl, hQ27⟩
          show ez_P _ _ _ _ _ _ 84 [(3, .int 0), (2, .int (nI k)), (0, .ref 112), (1, .int v)] [] (n, sl, kd, I26, La, Rf) _
          have hQ27 : zQ n kd I L Rf I I26 La T (zup (zup T.x (7 + k / 10) (nI (k % 10))) (7 + k / 10) (T.x (7 + k / 10))) oa := hQ27
          have hQ28 : zQ n kd I L Rf I I26 La T T.x oa := by rw [show T.x = zup (zup T.x (7 + k / 10) (nI (k % 10))) (7 + k / 10) (T.x (7 + k / 10)) from by rw [zup_zup, zup_id]]; exact hQ27
          refine ez_iload_n (i := 3) dX11_steps_84 rfl rfl ?_
          refine ez_if_ne (tgt := 91) dX11_steps_85 (by decide) (fun c29 => absurd c29 (by decide)) (fun c29 => ?_)
          refine ez_goto (tgt := 104) dX11_steps_88 (by decide) ?_
          refine ez_iinc (v := (nI (k + 1))) (l' := [(2, .int ((nI (k + 1)))), (3, .int 0), (0, .ref 112), (1, .int v)]) dX11_steps_104 rfl (nI_1 _) (by decide) rfl ?_
          refine ez_goto (tgt := 46) dX11_steps_107 (by decide) ?_
          refine ez_sub (l' := [(2, .int ((nI (k + 1)))), (0, .ref 112), (1, .int v)]) [0, 2, 3] rfl ?_
          exact ez_eq (l2 := [(2, .int (nI (k + 1))), (0, .ref 112), (1, .int v)]) rfl rfl rfl rfl (ih (I26, La, oa) ⟨hQ28, (zfb_step hex hk (by unfold f1; exact if_neg (fun g => b16 g.2)))⟩)
      · show ez_P _ _ _ _ _ _ 62 [(2, .int (nI k)), (0, .ref 112), (1, .int v)] (.int 0 :: []) _ _
        refine ez_if_ne (tgt := 68) dX11_steps_62 (by decide) (fun c30 => absurd c30 (by decide)) (fun c30 => ?_)
        refine ez_goto (tgt := 104) dX11_steps_65 (by decide) ?_
        refine ez_iinc (v := (nI (k + 1))) (l' := [(2, .int ((nI (k + 1)))), (0, .ref 112), (1, .int v)]) dX11_steps_104 rfl (nI_1 _) (by decide) rfl ?_
        refine ez_goto (tgt := 46) dX11_steps_107 (by decide) ?_
        exact ez_eq (l2 := [(2, .int (nI (k + 1))), (0, .ref 112), (1, .int v)]) rfl rfl rfl rfl (ih (Ia, La, oa) ⟨hQ0, (zfb_step hex hk (by unfold f1; exact if_neg (fun g => b12 g.1)))⟩)
    · rintro ⟨Ia, La, oa⟩ ⟨hQ0, hex⟩
      have hQ0 : zQ n kd I L Rf I Ia La T T.x oa := hQ0
      have hex : zfb (f1 T v) (10 * T.c - (10 * T.c)) (10 * T.c) = zfb (f1 T v) (10 * T.c) 0 := hex
      show ez_P _ _ _ _ _ _ 46 [(2, .int (nI (10 * T.c))), (0, .ref 112), (1, .int v)] [] (n, sl, kd, Ia, La, Rf) _
      refine ez_iload_n (i := 2) dX11_steps_46 rfl rfl ?_
      refine ez_bipush (v := 10) dX11_steps_47 (by decide) ?_
      refine ez_aload_n (i := 0) dX11_steps_49 rfl rfl ?_
      refine ez_getI dX11_steps_50 flX11_95 (hF.lt (by decide)) (hF.kc (by decide) rfl) ?_
      refine ez_topE (y := nI T.c) hQ0.M.c ?_
      refine ez_imul dX11_steps_53 ?_
      refine ez_topE (y := nI (10 * T.c)) (nI_mul _ _) ?_
      refine ez_icmp_ge (tgt := 110) dX11_steps_54 (by decide) (fun c31 => ?_) (fun c31 => absurd (nI_le (Nat.le_refl _) (by omega)) c31)
      have h1n : zfb (f1 T v) (10 * T.c) 0 = none := zfb_end hex (Nat.le_refl _)
      refine ez_iconst (v := 0) dX11_steps_110 (by decide) ?_
      refine ez_istore_n (l' := [(2, .int 0), (0, .ref 112), (1, .int v)]) dX11_steps_111 rfl (by decide) rfl ?_
      refine ez_eq (l2 := [(2, .int (nI 0)), (0, .ref 112), (1, .int v)]) (σ2 := (n, sl, kd, Ia, La, Rf)) rfl rfl rfl rfl ?_
      refine ez_for (10 * T.c) (fun k (a : (Nat → Nat → Int32) × (Nat → Nat → Int64) × Int32) => ([(2, .int (nI k)), (0, .ref 112), (1, .int v)], (n, sl, kd, a.1, a.2.1, Rf))) (fun k a => zQ n kd I L Rf I a.1 a.2.1 T T.x a.2.2 ∧ zfb (g2 T v) (10 * T.c - k) k = zfb (g2 T v) (10 * T.c) 0) ?_ ?_ (10 * T.c) 0 (Ia, La, oa) (by omega) ⟨hQ0, rfl⟩
      · rintro k ⟨Ia2, La2, oa2⟩ hk2 ⟨hQ02, hex2⟩ ih2
        have hQ02 : zQ n kd I L Rf I Ia2 La2 T T.x oa2 := hQ02
        have hex2 : zfb (g2 T v) (10 * T.c - k) k = zfb (g2 T v) (10 * T.c) 0 := hex2
        show ez_P _ _ _ _ _ _ 112 [(2, .int (nI k)), (0, .ref 112), (1, .int v)] [] (n, sl, kd, Ia2, La2, Rf) _
        refine ez_iload_n (i := 2) dX11_steps_112 rfl rfl ?_
        refine ez_bipush (v := 10) dX11_steps_113 (by decide) ?_
        refine ez_aload_n (i := 0) dX11_steps_115 rfl rfl ?_
        refine ez_getI dX11_steps_116 flX11_95 (hF.lt (by decide)) (hF.kc (by decide) rfl) ?_
        refine ez_topE (y := nI T.c) hQ02.M.c ?_
        refine ez_imul dX11_steps_119 ?_
        refine ez_topE (y := nI (10 * T.c)) (nI_mul _ _) ?_
        refine ez_icmp_ge (tgt := 229) dX11_steps_120 (by decide) (fun c32 => absurd c32 (nI_ge hk2 (by omega))) (fun c32 => ?_)
        refine ez_bipush (v := 10) dX11_steps_123 (by decide) ?_
        refine ez_iload_n (i := 2) dX11_steps_125 rfl rfl ?_
        refine ez_bipush (v := 10) dX11_steps_126 (by decide) ?_
        refine ez_idiv dX11_steps_128 (by decide) ?_
        refine ez_topE (y := nI (k / 10)) (z_idv (a := k) (m := 10) (by omega) (by decide)) ?_
        refine ez_iconst (v := 1) dX11_steps_129 (by decide) ?_
        refine ez_iadd dX11_steps_130 ?_
        refine ez_topE (y := nI ((k / 10) + 1)) (nI_add _ _) ?_
        refine ez_imul dX11_steps_131 ?_
        refine ez_topE (y := nI (10 * ((k / 10) + 1))) (nI_mul _ _) ?_
        refine ez_istore_n (l' := [(3, .int (nI (10 * ((k / 10) + 1)))), (2, .int (nI k)), (0, .ref 112), (1, .int v)]) dX11_steps_132 rfl (by decide) rfl ?_
        refine ez_eq (l2 := [(3, .int (nI ((10 * (k / 10 + 1)) + 0))), (2, .int (nI k)), (0, .ref 112), (1, .int v)]) (σ2 := (n, sl, kd, Ia2, La2, Rf)) rfl rfl rfl rfl ?_
        refine ez_for (10 * T.c - (10 * (k / 10 + 1))) (fun j (a : (Nat → Nat → Int32) × (Nat → Nat → Int64) × Int32) => ([(3, .int (nI ((10 * (k / 10 + 1)) + j))), (2, .int (nI k)), (0, .ref 112), (1, .int v)], (n, sl, kd, a.1, a.2.1, Rf))) (fun j a => zQ n kd I L Rf I a.1 a.2.1 T T.x a.2.2 ∧ zfb (f2 T v k) (10 * T.c - ((10 * (k / 10 + 1)) + j)) ((10 * (k / 10 + 1)) + j) = zfb (f2 T v k) (10 * T.c - (10 * (k / 10 + 1))) (10 * (k / 10 + 1))) ?_ ?_ (10 * T.c - (10 * (k / 10 + 1))) 0 (Ia2, La2, oa2) (by omega) ⟨hQ02, rfl⟩
        · rintro j ⟨Ia3, La3, oa3⟩ hk3 ⟨hQ03, hex3⟩ ih3
          have hQ03 : zQ n kd I L Rf I Ia3 La3 T T.x oa3 := hQ03
          have hex3 : zfb (f2 T v k) (10 * T.c - ((10 * (k / 10 + 1)) + j)) ((10 * (k / 10 + 1)) + j) = zfb (f2 T v k) (10 * T.c - (10 * (k / 10 + 1))) (10 * (k / 10 + 1)) := hex3
          show ez_P _ _ _ _ _ _ 133 [(3, .int (nI ((10 * (k / 10 + 1)) + j))), (2, .int (nI k)), (0, .ref 112), (1, .int v)] [] (n, sl, kd, Ia3, La3, Rf) _
          refine ez_iload_n (i := 3) dX11_steps_133 rfl rfl ?_
          refine ez_bipush (v := 10) dX11_steps_134 (by decide) ?_
          refine ez_aload_n (i := 0) dX11_steps_136 rfl rfl ?_
          refine ez_getI dX11_steps_137 flX11_95 (hF.lt (by decide)) (hF.kc (by decide) rfl) ?_
          refine ez_topE (y := nI T.c) hQ03.M.c ?_
          refine ez_imul dX11_steps_140 ?_
          refine ez_topE (y := nI (10 * T.c)) (nI_mul _ _) ?_
          refine ez_icmp_ge (tgt := 223) dX11_steps_141 (by decide) (fun c33 => absurd c33 (nI_ge (by omega) (by omega))) (fun c33 => ?_)
          refine ez_aload_n (i := 0) dX11_steps_144 rfl rfl ?_
          refine ez_iload_n (i := 2) dX11_steps_145 rfl rfl ?_
          refine ez_callV (M1 := mX11_isTelling) (rest := []) dX11_steps_146 mlX11_288 mvX11_isTelling rfl (hF.lt (by decide)) (hF.kc (by decide) rfl) (Nat.le_of_ble_eq_true rfl) rfl (y_X11_isTelling (I := Ia3) (L := La3) (d + 379) hQ03 hO hH (a := k) (by omega)) eb_bok ?_
          rintro _ _ ⟨rfl, ⟨b34, rfl⟩ | ⟨b34, rfl⟩⟩
          · show ez_P _ _ _ _ _ _ 149 [(3, .int (nI ((10 * (k / 10 + 1)) + j))), (2, .int (nI k)), (0, .ref 112), (1, .int v)] (.int 1 :: []) _ _
            refine ez_if_eq (tgt := 217) dX11_steps_149 (by decide) (fun c35 => absurd c35 (by decide)) (fun c35 => ?_)
            refine ez_aload_n (i := 0) dX11_steps_152 rfl rfl ?_
            refine ez_iload_n (i := 3) dX11_steps_153 rfl rfl ?_
            refine ez_callV (M1 := mX11_isTelling) (rest := []) dX11_steps_154 mlX11_288 mvX11_isTelling rfl (hF.lt (by decide)) (hF.kc (by decide) rfl) (Nat.le_of_ble_eq_true rfl) rfl (y_X11_isTelling (I := Ia3) (L := La3) (d + 379) hQ03 hO hH (a := ((10 * (k / 10 + 1)) + j)) (by omega)) eb_bok ?_
            rintro _ _ ⟨rfl, ⟨b36, rfl⟩ | ⟨b36, rfl⟩⟩
            · show ez_P _ _ _ _ _ _ 157 [(3, .int (nI ((10 * (k / 10 + 1)) + j))), (2, .int (nI k)), (0, .ref 112), (1, .int v)] (.int 1 :: []) _ _
              refine ez_if_ne (tgt := 163) dX11_steps_157 (by decide) (fun c37 => ?_) (fun c37 => absurd (by decide) c37)
              refine ez_aload_n (i := 0) dX11_steps_163 rfl rfl ?_
              refine ez_iload_n (i := 2) dX11_steps_164 rfl rfl ?_
              refine ez_callV (M1 := mX11_think) (rest := []) dX11_steps_165 mlX11_291 mvX11_think rfl (hF.lt (by decide)) (hF.kc (by decide) rfl) (Nat.le_of_ble_eq_true rfl) rfl (y_X11_think (I := Ia3) (L := La3) (d + 379) hQ03 hO hH (a := k) (by omega)) zpQx_ok ?_
              rintro _ _ ⟨rfl, I38, rfl, hQ39⟩
              show ez_P _ _ _ _ _ _ 168 [(3, .int (nI ((10 * (k / 10 + 1)) + j))), (2, .int (nI k)), (0, .ref 112), (1, .int v)] [] (n, sl, kd, I38, La3, Rf) _
              have hQ39 : zQ n kd I L Rf I I38 La3 T (zup T.x (7 + k / 10) (nI (k % 10))) oa3 := hQ39
              refine ez_aload_n (i := 0) dX11_steps_168 rfl rfl ?_
              refine ez_iload_n (i := 3) dX11_steps_169 rfl rfl ?_
              refine ez_callV (M1 := mX11_think) (rest := []) dX11_steps_170 mlX11_291 mvX11_think rfl (hF.lt (by decide)) (hF.kc (by decide) rfl) (Nat.le_of_ble_eq_true rfl) rfl (y_X11_think (I := I38) (L := La3) (d + 379) hQ39 hO hH (a := ((10 * (k / 10 + 1)) + j)) (by omega)) zpQx_ok ?_
              rintro _ _ ⟨rfl, I40, rfl, hQ41⟩
              show ez_P _ _ _ _ _ _ 173 [(3, .int (nI ((10 * (k / 10 + 1)) + j))), (2, .int (nI k)), (0, .ref 112), (1, .int v)] [] (n, sl, kd, I40, La3, Rf) _
              have hQ41 : zQ n kd I L Rf I I40 La3 T (zup (zup T.x (7 + k / 10) (nI (k % 10))) (7 + ((10 * (k / 10 + 1)) + j) / 10) (nI (((10 * (k / 10 + 1)) + j) % 10))) oa3 := hQ41
              refine ez_aload_n (i := 0) dX11_steps_173 rfl rfl ?_
              refine ez_iload_n (i := 1) dX11_steps_174 rfl rfl ?_
              refine ez_callV (M1 := mX11_stands) (rest := []) dX11_steps_175 mlX11_285 mvX11_stands rfl (hF.lt (by decide)) (hF.kc (by decide) rfl) (Nat.le_of_ble_eq_true rfl) rfl (y_X11_stands (I := I40) (L := La3) (d + 49) hQ41 hO hH ((hO.x.tho hO.c (b := k / 10) (by omega) ⟨k % 10, b34.2.1, rfl⟩).tho hO.c (b := ((10 * (k / 10 + 1)) + j) / 10) (by omega) ⟨((10 * (k / 10 + 1)) + j) % 10, b36.2.1, rfl⟩) (by omega) v) eb_bok ?_
              rintro _ _ ⟨rfl, ⟨b42, rfl⟩ | ⟨b42, rfl⟩⟩
              · show ez_P _ _ _ _ _ _ 178 [(3, .int (nI ((10 * (k / 10 + 1)) + j))), (2, .int (nI k)), (0, .ref 112), (1, .int v)] (.int 1 :: []) _ _
                refine ez_istore (l' := [(4, .int 1), (3, .int (nI ((10 * (k / 10 + 1)) + j))), (2, .int (nI k)), (0, .ref 112), (1, .int v)]) dX11_steps_178 (by decide) rfl ?_
                refine ez_aload_n (i := 0) dX11_steps_180 rfl rfl ?_
                refine ez_iload_n (i := 2) dX11_steps_181 rfl rfl ?_
                refine ez_callV (M1 := mX11_unthink) (rest := []) dX11_steps_182 mlX11_294 mvX11_unthink rfl (hF.lt (by decide)) (hF.kc (by decide) rfl) (Nat.le_of_ble_eq_true rfl) rfl (y_X11_unthink (I := I40) (L := La3) (d + 379) hQ41 hO hH (a := k) (by omega)) zpQx_ok ?_
                rintro _ _ ⟨rfl, I43, rfl, hQ44⟩
                show ez_P _ _ _ _ _ _ 185 [(4, .int 1), (3, .int (nI ((10 * (k / 10 + 1)) + j))), (2, .int (nI k)), (0, .ref 112), (1, .int v)] [] (n, sl, kd, I43, La3, Rf) _
                have hQ44 : zQ n kd I L Rf I I43 La3 T (zup (zup (zup T.x (7 + k / 10) (nI (k % 10))) (7 + ((10 * (k / 10 + 1)) + j) / 10) (nI (((10 * (k / 10 + 1)) + j) % 10))) (7 + k / 10) (T.x (7 + k / 10))) oa3 := hQ44
                refine ez_aload_n (i := 0) dX11_steps_185 rfl rfl ?_
                refine ez_iload_n (i := 3) dX11_steps_186 rfl rfl ?_
                refine ez_callV (M1 := mX11_unthink) (rest := []) dX11_steps_187 mlX11_294 mvX11_unthink rfl (hF.lt (by decide)) (hF.kc (by decide) rfl) (Nat.le_of_ble_eq_true rfl) rfl (y_X11_unthink (I := I43) (L := La3) (d + 379) hQ44 hO hH (a := ((10 * (k / 10 + 1)) + j)) (by omega)) zpQx_ok ?_
                rintro _ _ ⟨rfl, I45, rfl, hQ46⟩
                show ez_P _ _ _ _ _ _ 190 [(4, .int 1), (3, .int (nI ((10 * (k / 10 + 1)) + j))), (2, .int (nI k)), (0, .ref 112), (1, .int v)] [] (n, sl, kd, I45, La3, Rf) _
                have hQ46 : zQ n kd I L Rf I I45 La3 T (zup (zup (zup (zup T.x (7 + k / 10) (nI (k % 10))) (7 + ((10 * (k / 10 + 1)) + j) / 10) (nI (((10 * (k / 10 + 1)) + j) % 10))) (7 + k / 10) (T.x (7 + k / 10))) (7 + ((10 * (k / 10 + 1)) + j) / 10) (T.x (7 + ((10 * (k / 10 + 1)) + j) / 10))) oa3 := hQ46
                have hQ47 : zQ n kd I L Rf I I45 La3 T T.x oa3 := by rw [show T.x = zup (zup (zup (zup T.x (7 + k / 10) (nI (k % 10))) (7 + ((10 * (k / 10 + 1)) + j) / 10) (nI (((10 * (k / 10 + 1)) + j) % 10))) (7 + k / 10) (T.x (7 + k / 10))) (7 + ((10 * (k / 10 + 1)) + j) / 10) (T.x (7 + ((10 * (k / 10 + 1)) + j) / 10)) from zup4t (p := k / 10) (q := ((10 * (k / 10 + 1)) + j) / 10) (by omega)]; exact hQ46
                refine ez_iload (i := 4) dX11_steps_190 rfl ?_
                refine ez_if_ne (tgt := 198) dX11_steps_192 (by decide) (fun c48 => ?_) (fun c48 => absurd (by decide) c48)
                refine ez_aload_n (i := 0) dX11_steps_198 rfl rfl ?_
                refine ez_iconst (v := 0) dX11_steps_199 (by decide) ?_
                refine ez_pI dX11_steps_200 plX11_92 (hF.lt (by decide)) (hF.lx (by decide)) (hF.kc (by decide) rfl) rfl rfl ?_
                refine ez_nmI (fun I49 hI49 => ?_)
                have hQ50 : zQ n kd I L Rf I I49 La3 (T.w_rw []) T.x oa3 := by rw [hI49]; exact hQ47.row0
                refine ez_aload_n (i := 0) dX11_steps_203 rfl rfl ?_
                refine ez_iload_n (i := 2) dX11_steps_204 rfl rfl ?_
                refine ez_i2l dX11_steps_205 rfl ?_
                refine ez_callV (M1 := mX11_tell) (rest := []) dX11_steps_206 mlX11_252 mvX11_tell rfl (hF.lt (by decide)) (hF.kc (by decide) rfl) (Nat.le_of_ble_eq_true rfl) rfl (y_X11_tell (I := I49) (L := La3) (d + 399) hF (k := 0) hQ50.M.rw.1 (by decide) ((nI k).toInt64)) (eb_vok rfl) ?_
                rintro _ _ ⟨rfl, rfl⟩
                refine ez_nmI (fun I51 hI51 => ?_)
                refine ez_nmL (fun L52 hL52 => ?_)
                show ez_P _ _ _ _ _ _ 209 [(4, .int 1), (3, .int (nI ((10 * (k / 10 + 1)) + j))), (2, .int (nI k)), (0, .ref 112), (1, .int v)] [] (n, sl, kd, I51, L52, Rf) _
                have hQ53 : zQ n kd I L Rf I I51 L52 (T.w_rw [(nI k).toInt64]) T.x oa3 := by rw [hI51, hL52]; exact hQ50.tell ((nI k).toInt64)
                refine ez_aload_n (i := 0) dX11_steps_209 rfl rfl ?_
                refine ez_iload_n (i := 3) dX11_steps_210 rfl rfl ?_
                refine ez_i2l dX11_steps_211 rfl ?_
                refine ez_callV (M1 := mX11_tell) (rest := []) dX11_steps_212 mlX11_252 mvX11_tell rfl (hF.lt (by decide)) (hF.kc (by decide) rfl) (Nat.le_of_ble_eq_true rfl) rfl (y_X11_tell (I := I51) (L := L52) (d + 399) hF (k := 1) hQ53.M.rw.1 (by decide) ((nI ((10 * (k / 10 + 1)) + j)).toInt64)) (eb_vok rfl) ?_
                rintro _ _ ⟨rfl, rfl⟩
                refine ez_nmI (fun I54 hI54 => ?_)
                refine ez_nmL (fun L55 hL55 => ?_)
                show ez_P _ _ _ _ _ _ 215 [(4, .int 1), (3, .int (nI ((10 * (k / 10 + 1)) + j))), (2, .int (nI k)), (0, .ref 112), (1, .int v)] [] (n, sl, kd, I54, L55, Rf) _
                have hQ56 : zQ n kd I L Rf I I54 L55 (T.w_rw [(nI k).toInt64, (nI ((10 * (k / 10 + 1)) + j)).toInt64]) T.x oa3 := by rw [hI54, hL55]; exact hQ53.tell ((nI ((10 * (k / 10 + 1)) + j)).toInt64)
                refine ez_iconst (v := 2) dX11_steps_215 (by decide) ?_
                refine ez_iret dX11_steps_216 rfl rfl ?_
                have hg2 : g2 T v k = some (k, ((10 * (k / 10 + 1)) + j)) := by unfold g2; rw [zfb_hit hex3 (by omega) (x := ((10 * (k / 10 + 1)) + j)) (by unfold f2; exact if_pos ⟨⟨b34, b36⟩, b42⟩)]; rfl
                rw [show s_steps T v = (2, T.w_rw [(nI k).toInt64, (nI ((10 * (k / 10 + 1)) + j)).toInt64]) from by unfold s_steps; rw [if_pos hn, if_neg hst, h1n, zfb_hit hex2 hk2 hg2]]
                exact hQ56.end
              · show ez_P _ _ _ _ _ _ 178 [(3, .int (nI ((10 * (k / 10 + 1)) + j))), (2, .int (nI k)), (0, .ref 112), (1, .int v)] (.int 0 :: []) _ _
                refine ez_istore (l' := [(4, .int 0), (3, .int (nI ((10 * (k / 10 + 1)) + j))), (2, .int (nI k)), (0, .ref 112), (1, .int v)]) dX11_steps_178 (by decide) rfl ?_
                refine ez_aload_n (i := 0) dX11_steps_180 rfl rfl ?_
                refine ez_iload_n (i := 2) dX11_steps_181 rfl rfl ?_
                refine ez_callV (M1 := mX11_unthink) (rest := []) dX11_steps_182 mlX11_294 mvX11_unthink rfl (hF.lt (by decide)) (hF.kc (by decide) rfl) (Nat.le_of_ble_eq_true rfl) rfl (y_X11_unthink (I := I40) (L := La3) (d + 379) hQ41 hO hH (a := k) (by omega)) zpQx_ok ?_
                rintro _ _ ⟨rfl, I57, rfl, hQ58⟩
                show ez_P _ _ _ _ _ _ 185 [(4, .int 0), (3, .int (nI ((10 * (k / 10 + 1)) + j))), (2, .int (nI k)), (0, .ref 112), (1, .int v)] [] (n, sl, kd, I57, La3, Rf) _
                have hQ58 : zQ n kd I L Rf I I57 La3 T (zup (zup (zup T.x (7 + k / 10) (nI (k % 10))) (7 + ((10 * (k / 10 + 1)) + j) / 10) (nI (((10 * (k / 10 + 1)) + j) % 10))) (7 + k / 10) (T.x (7 + k / 10))) oa3 := hQ58
                refine ez_aload_n (i := 0) dX11_steps_185 rfl rfl ?_
                refine ez_iload_n (i := 3) dX11_steps_186 rfl rfl ?_
                refine ez_callV (M1 := mX11_unthink) (rest := []) dX11_steps_187 mlX11_294 mvX11_unthink rfl (hF.lt (by decide)) (hF.kc (by decide) rfl) (Nat.le_of_ble_eq_true rfl) rfl (y_X11_unthink (I := I57) (L := La3) (d + 379) hQ58 hO hH (a := ((10 * (k / 10 + 1)) + j)) (by omega)) zpQx_ok ?_
                rintro _ _ ⟨rfl, I59, rfl, hQ60⟩
                show ez_P _ _ _ _ _ _ 190 [(4, .int 0), (3, .int (nI ((10 * (k / 10 + 1)) + j))), (2, .int (nI k)), (0, .ref 112), (1, .int v)] [] (n, sl, kd, I59, La3, Rf) _
                have hQ60 : zQ n kd I L Rf I I59 La3 T (zup (zup (zup (zup T.x (7 + k / 10) (nI (k % 10))) (7 + ((10 * (k / 10 + 1)) + j) / 10) (nI (((10 * (k / 10 + 1)) + j) % 10))) (7 + k / 10) (T.x (7 + k / 10))) (7 + ((10 * (k / 10 + 1)) + j) / 10) (T.x (7 + ((10 * (k / 10 + 1)) + j) / 10))) oa3 := hQ60
                have hQ61 : zQ n kd I L Rf I I59 La3 T T.x oa3 := by rw [show T.x = zup (zup (zup (zup T.x (7 + k / 10) (nI (k % 10))) (7 + ((10 * (k / 10 + 1)) + j) / 10) (nI (((10 * (k / 10 + 1)) + j) % 10))) (7 + k / 10) (T.x (7 + k / 10))) (7 + ((10 * (k / 10 + 1)) + j) / 10) (T.x (7 + ((10 * (k / 10 + 1)) + j) / 10)) from zup4t (p := k / 10) (q := ((10 * (k / 10 + 1)) + j) / 10) (by omega)]; exact hQ60
                refine ez_iload (i := 4) dX11_steps_190 rfl ?_
                refine ez_if_ne (tgt := 198) dX11_steps_192 (by decide) (fun c62 => absurd c62 (by decide)) (fun c62 => ?_)
                refine ez_goto (tgt := 217) dX11_steps_195 (by decide) ?_
                refine ez_iinc (v := (nI ((10 * (k / 10 + 1)) + j + 1))) (l' := [(3, .int ((nI ((10 * (k / 10 + 1)) + j + 1)))), (4, .int 0), (2, .int (nI k)), (0, .ref 112), (1, .int v)]) dX11_steps_217 rfl (nI_1 _) (by decide) rfl ?_
                refine ez_goto (tgt := 133) dX11_steps_220 (by decide) ?_
                refine ez_sub (l' := [(3, .int ((nI ((10 * (k / 10 + 1)) + j + 1)))), (2, .int (nI k)), (0, .ref 112), (1, .int v)]) [0, 2, 3, 4] rfl ?_
                exact ez_eq (l2 := [(3, .int (nI ((10 * (k / 10 + 1)) + (j + 1)))), (2, .int (nI k)), (0, .ref 112), (1, .int v)]) rfl rfl rfl rfl (ih3 (I59, La3, oa3) ⟨hQ61, (zfb_step (k := (10 * (k / 10 + 1)) + j) hex3 (by omega) (by unfold f2; exact if_neg (fun g => b42 g.2)))⟩)
            · show ez_P _ _ _ _ _ _ 157 [(3, .int (nI ((10 * (k / 10 + 1)) + j))), (2, .int (nI k)), (0, .ref 112), (1, .int v)] (.int 0 :: []) _ _
              refine ez_if_ne (tgt := 163) dX11_steps_157 (by decide) (fun c63 => absurd c63 (by decide)) (fun c63 => ?_)
              refine ez_goto (tgt := 217) dX11_steps_160 (by decide) ?_
              refine ez_iinc (v := (nI ((10 * (k / 10 + 1)) + j + 1))) (l' := [(3, .int ((nI ((10 * (k / 10 + 1)) + j + 1)))), (2, .int (nI k)), (0, .ref 112), (1, .int v)]) dX11_steps_217 rfl (nI_1 _) (by decide) rfl ?_
              refine ez_goto (tgt := 133) dX11_steps_220 (by decide) ?_
              exact ez_eq (l2 := [(3, .int (nI ((10 * (k / 10 + 1)) + (j + 1)))), (2, .int (nI k)), (0, .ref 112), (1, .int v)]) rfl rfl rfl rfl (ih3 (Ia3, La3, oa3) ⟨hQ03, (zfb_step (k := (10 * (k / 10 + 1)) + j) hex3 (by omega) (by unfold f2; exact if_neg (fun g => b36 g.1.2)))⟩)
          · show ez_P _ _ _ _ _ _ 149 [(3, .int (nI ((10 * (k / 10 + 1)) + j))), (2, .int (nI k)), (0, .ref 112), (1, .int v)] (.int 0 :: []) _ _
            refine ez_if_eq (tgt := 217) dX11_steps_149 (by decide) (fun c64 => ?_) (fun c64 => absurd (by decide) c64)
            refine ez_iinc (v := (nI ((10 * (k / 10 + 1)) + j + 1))) (l' := [(3, .int ((nI ((10 * (k / 10 + 1)) + j + 1)))), (2, .int (nI k)), (0, .ref 112), (1, .int v)]) dX11_steps_217 rfl (nI_1 _) (by decide) rfl ?_
            refine ez_goto (tgt := 133) dX11_steps_220 (by decide) ?_
            exact ez_eq (l2 := [(3, .int (nI ((10 * (k / 10 + 1)) + (j + 1)))), (2, .int (nI k)), (0, .ref 112), (1, .int v)]) rfl rfl rfl rfl (ih3 (Ia3, La3, oa3) ⟨hQ03, (zfb_step (k := (10 * (k / 10 + 1)) + j) hex3 (by omega) (by unfold f2; exact if_neg (fun g => b34 g.1.1)))⟩)
        · rintro ⟨Ia3, La3, oa3⟩ ⟨hQ03, hex3⟩
          have hQ03 : zQ n kd I L Rf I Ia3 La3 T T.x oa3 := hQ03
          have hex3 : zfb (f2 T v k) (10 * T.c - ((10 * (k / 10 + 1)) + (10 * T.c - (10 * (k / 10 + 1))))) ((10 * (k / 10 + 1)) + (10 * T.c - (10 * (k / 10 + 1)))) = zfb (f2 T v k) (10 * T.c - (10 * (k / 10 + 1))) (10 * (k / 10 + 1)) := hex3
          show ez_P _ _ _ _ _ _ 133 [(3, .int (nI ((10 * (k / 10 + 1)) + (10 * T.c - (10 * (k / 10 + 1)))))), (2, .int (nI k)), (0, .ref 112), (1, .int v)] [] (n, sl, kd, Ia3, La3, Rf) _
          refine ez_iload_n (i := 3) dX11_steps_133 rfl rfl ?_
          refine ez_bipush (v := 10) dX11_steps_134 (by decide) ?_
          refine ez_aload_n (i := 0) dX11_steps_136 rfl rfl ?_
          refine ez_getI dX11_steps_137 flX11_95 (hF.lt (by decide)) (hF.kc (by decide) rfl) ?_
          refine ez_topE (y := nI T.c) hQ03.M.c ?_
          refine ez_imul dX11_steps_140 ?_
          refine ez_topE (y := nI (10 * T.c)) (nI_mul _ _) ?_
          refine ez_icmp_ge (tgt := 223) dX11_steps_141 (by decide) (fun c65 => ?_) (fun c65 => absurd (nI_le (by omega) (by omega)) c65)
          refine ez_iinc (v := (nI (k + 1))) (l' := [(2, .int ((nI (k + 1)))), (3, .int (nI ((10 * (k / 10 + 1)) + (10 * T.c - (10 * (k / 10 + 1)))))), (0, .ref 112), (1, .int v)]) dX11_steps_223 rfl (nI_1 _) (by decide) rfl ?_
          refine ez_goto (tgt := 112) dX11_steps_226 (by decide) ?_
          refine ez_sub (l' := [(2, .int ((nI (k + 1)))), (0, .ref 112), (1, .int v)]) [0, 2, 3] rfl ?_
          exact ez_eq (l2 := [(2, .int (nI (k + 1))), (0, .ref 112), (1, .int v)]) rfl rfl rfl rfl (ih2 (Ia3, La3, oa3) ⟨hQ03, (zfb_step hex2 hk2 (by unfold g2; rw [zfb_end hex3 (by omega)]; rfl))⟩)
      · rintro ⟨Ia2, La2, oa2⟩ ⟨hQ02, hex2⟩
        have hQ02 : zQ n kd I L Rf I Ia2 La2 T T.x oa2 := hQ02
        have hex2 : zfb (g2 T v) (10 * T.c - (10 * T.c)) (10 * T.c) = zfb (g2 T v) (10 * T.c) 0 := hex2
        show ez_P _ _ _ _ _ _ 112 [(2, .int (nI (10 * T.c))), (0, .ref 112), (1, .int v)] [] (n, sl, kd, Ia2, La2, Rf) _
        refine ez_iload_n (i := 2) dX11_steps_112 rfl rfl ?_
        refine ez_bipush (v := 10) dX11_steps_113 (by decide) ?_
        refine ez_aload_n (i := 0) dX11_steps_115 rfl rfl ?_
        refine ez_getI dX11_steps_116 flX11_95 (hF.lt (by decide)) (hF.kc (by decide) rfl) ?_
        refine ez_topE (y := nI T.c) hQ02.M.c ?_
        refine ez_imul dX11_steps_119 ?_
        refine ez_topE (y := nI (10 * T.c)) (nI_mul _ _) ?_
        refine ez_icmp_ge (tgt := 229) dX11_steps_120 (by decide) (fun c66 => ?_) (fun c66 => absurd (nI_le (Nat.le_refl _) (by omega)) c66)
        refine ez_bipush (v := (-2)) dX11_steps_229 (by decide) ?_
        refine ez_iret dX11_steps_231 rfl rfl ?_
        rw [show s_steps T v = (-2, T) from by unfold s_steps; rw [if_pos hn, if_neg hst, h1n, zfb_end hex2 (Nat.le_refl _)]]
        exact hQ02.end
theorem y_X11_steps_no {n : Nat} {sl : Nat × Nat} {kd : Nat → Nat × Nat} {I : Nat → Nat → Int32} {L : Nat → Nat → Int64} {Rf : Nat → Nat → Option Nat} (d : Nat) {T : zT} {H : Nat} (hM : zM n kd I L Rf T) (hO : zOk H T) (hH : H ≤ 1000000000) {v : Int32} (hn : ¬ (0 ≤ v ∧ v ≤ 20))  : zq mX11_steps (d + 400) [.ref 112, .int v] (n, sl, kd, I, L, Rf) (zpM n sl kd I L Rf (some (.int (s_steps T v).1)) (s_steps T v).2) := by
  have hF := hM.F; have hc7 := hO.c
  have hsp : s_steps T v = ((-1), T) := (by unfold s_steps; rw [if_neg hn])
  rw [hsp]
  intro f B
  refine ez_meth pn_X.2.2.2.2.2.2.2.2.2.2.2 (Nat.le_of_ble_eq_true rfl) ?_
  show ez_P _ _ _ _ _ _ 0 [(0, .ref 112), (1, .int v)] [] (n, sl, kd, I, L, Rf) _
  refine ez_aload_n (i := 0) dX11_steps_0 rfl rfl ?_
  refine ez_iconst (v := 0) dX11_steps_1 (by decide) ?_
  refine ez_pI dX11_steps_2 plX11_89 (hF.lt (by decide)) (hF.lx (by decide)) (hF.kc (by decide) rfl) rfl rfl ?_
  refine ez_nmI (fun I1 hI1 => ?_)
  have hQ2 : zQ n kd I L Rf I I1 L T (I 124) (I 112 25) := by rw [hI1]; exact zQ.start hM
  refine ez_iload_n (i := 1) dX11_steps_5 rfl rfl ?_
  refine ez_iconst (v := 0) dX11_steps_6 (by decide) ?_
  refine ez_bipush (v := 20) dX11_steps_7 (by decide) ?_
  refine ez_callS (M1 := mX11_in) (rest := []) dX11_steps_9 mlX11_98 msX11_in rfl (Nat.le_of_ble_eq_true rfl) rfl (zq_b0 hn (zq_b (q_X11_in (d + 399) v 0 20) (n, sl, kd, I1, L, Rf))) eb_rok ?_
  rintro _ _ ⟨rfl, rfl⟩
  show ez_P _ _ _ _ _ _ 12 [(0, .ref 112), (1, .int v)] (.int 0 :: []) _ _
  refine ez_if_ne (tgt := 17) dX11_steps_12 (by decide) (fun c3 => absurd c3 (by decide)) (fun c3 => ?_)
  refine ez_iconst (v := (-1)) dX11_steps_15 (by decide) ?_
  refine ez_iret dX11_steps_16 rfl rfl ?_
  exact hQ2.end
theorem y_X11_steps {n : Nat} {sl : Nat × Nat} {kd : Nat → Nat × Nat} {I : Nat → Nat → Int32} {L : Nat → Nat → Int64} {Rf : Nat → Nat → Option Nat} (d : Nat) {T : zT} {H : Nat} (hM : zM n kd I L Rf T) (hO : zOk H T) (hH : H ≤ 1000000000) (v : Int32) : zq mX11_steps (d + 400) [.ref 112, .int v] (n, sl, kd, I, L, Rf) (zpM n sl kd I L Rf (some (.int (s_steps T v).1)) (s_steps T v).2) := by
  by_cases hn : 0 ≤ v ∧ v ≤ 20
  · exact y_X11_steps_ok d hM hO hH hn
  · exact y_X11_steps_no d hM hO hH hn
