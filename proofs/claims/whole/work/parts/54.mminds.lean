/-! the reference: minds, looks, fits, asks -/
def zsd (T : zT) (b t : Nat) : Int32 := zst T (zup T.x (7 + b) (nI t))
def zsn (T : zT) (k : Nat) : Int32 × Int32 × Int32 := T.sn.getD k (0, 0, 0)
theorem zsn_at {T : zT} {k : Nat} (h : k < T.sn.length) : T.sn[k]? = some (zsn T k) := by simp [zsn, List.getD, h]
def zhd (T : zT) (k : Nat) : Int32 × Int32 := T.hd.getD k (0, 0)
theorem zhd_at {T : zT} {k : Nat} (h : k < T.hd.length) : T.hd[k]? = some (zhd T k) := by simp [zhd, List.getD, h]
theorem zup_zup {x : Nat → Int32} {i : Nat} {u v : Int32} : zup (zup x i u) i v = zup x i v := by
  funext q; unfold zup; split <;> rfl
theorem z_idv {a m : Nat} (ha : a < 2147483648) (hm : m < 2147483648) : nI a / nI m = nI (a / m) := by
  have h8 : a / m ≤ a := Nat.div_le_self a m
  have h9 : (a : Int).tdiv (m : Int) = ((a / m : Nat) : Int) := (Int.ofNat_tdiv a m).symm
  generalize a / m = q at *
  apply Int32.toInt_inj.mp
  have h1 : (nI a).toInt = a := nI_toInt ha
  have h2 : (nI m).toInt = m := nI_toInt hm
  have h5 : (nI q).toInt = q := nI_toInt (by omega)
  rw [Int32.toInt_div, h1, h2, h5, h9]
  exact Int.bmod_eq_of_le (by omega) (by omega)
def zpG (n : Nat) (sl : Nat × Nat) (kd : Nat → Nat × Nat) (I0 : Nat → Nat → Int32) (L0 : Nat → Nat → Int64) (Rf : Nat → Nat → Option Nat) (T : zT) (P : (Nat → Nat → Int32) → Prop) : Option Value → eb_S → Prop := fun r τ => r = none ∧ ∃ I1 L1 x1 o1 g1, τ = (n, sl, kd, I1, L1, Rf) ∧ zQ n kd I0 L0 Rf g1 I1 L1 T x1 o1 ∧ P g1
theorem zpG_ok {n : Nat} {sl : Nat × Nat} {kd : Nat → Nat × Nat} {I0 : Nat → Nat → Int32} {L0 : Nat → Nat → Int64} {Rf : Nat → Nat → Option Nat} {T : zT} {P : (Nat → Nat → Int32) → Prop} {l : List (Nat × Value)} {rest : List Value} : ∀ r1 σ1, zpG n sl kd I0 L0 Rf T P r1 σ1 → σ1.1 = n ∨ ((∀ q ∈ l, eb_okv n q.2) ∧ ∀ v ∈ rest, eb_okv n v) := fun _ _ h => Or.inl (by obtain ⟨_, I1, L1, x1, o1, g1, h, _⟩ := h; rw [h])
theorem y_X11_laySides {n : Nat} {sl : Nat × Nat} {kd : Nat → Nat × Nat} {I : Nat → Nat → Int32} {L : Nat → Nat → Int64} {Rf : Nat → Nat → Option Nat} (d : Nat) {T : zT} {H : Nat} {I0 g : Nat → Nat → Int32} {L0 : Nat → Nat → Int64} {x : Nat → Int32} {o : Int32} (hQ : zQ n kd I0 L0 Rf g I L T x o) (hO : zOk H T) (hH : H ≤ 1000000000) {b0 : Nat} (hb : b0 < T.c)  : zq mX11_laySides (d + 350) [.ref 112, .int (nI b0)] (n, sl, kd, I, L, Rf) (zpG n sl kd I0 L0 Rf T (fun g1 => ∀ t, t < 6 → g1 129 t = zsd T b0 t)) := by
  have hF := hQ.M.F; have hc7 := hO.c
  intro f B
  refine ez_meth pn_X.2.2.2.2.2.2.2.2.2.2.2 (Nat.le_of_ble_eq_true rfl) ?_
  show ez_P _ _ _ _ _ _ 0 [(0, .ref 112), (1, .int (nI b0))] [] (n, sl, kd, I, L, Rf) _
  refine ez_aload_n (i := 0) dX11_laySides_0 rfl rfl ?_
  refine ez_getR dX11_laySides_1 flX11_9 (hF.lt (by decide)) (hF.kc (by decide) rfl) (hF.pt 107 rfl) ?_
  refine ez_aload_n (i := 0) dX11_laySides_4 rfl rfl ?_
  refine ez_getR dX11_laySides_5 flX11_49 (hF.lt (by decide)) (hF.kc (by decide) rfl) (hF.pt 117 rfl) ?_
  refine ez_iconst (v := 0) dX11_laySides_8 (by decide) ?_
  refine ez_callS (M1 := mX11_lay) (rest := []) dX11_laySides_9 mlX11_231 msX11_lay rfl (Nat.le_of_ble_eq_true rfl) rfl (y_lay0 (I := I) (L := L) (d + 349) hF) (eb_vok rfl) ?_
  rintro _ _ ⟨rfl, rfl⟩
  refine ez_nmI (fun I1 hI1 => ?_)
  show ez_P _ _ _ _ _ _ 12 [(0, .ref 112), (1, .int (nI b0))] [] (n, sl, kd, I1, L, Rf) _
  have hQ2 : zQ n kd I0 L0 Rf g I1 L T T.x o := by rw [hI1]; exact hQ.lay
  refine ez_iconst (v := 0) dX11_laySides_12 (by decide) ?_
  refine ez_istore_n (l' := [(2, .int 0), (0, .ref 112), (1, .int (nI b0))]) dX11_laySides_13 rfl (by decide) rfl ?_
  refine ez_eq (l2 := [(2, .int (nI 0)), (0, .ref 112), (1, .int (nI b0))]) (σ2 := (n, sl, kd, I1, L, Rf)) rfl rfl rfl rfl ?_
  refine ez_for 6 (fun k (a : (Nat → Nat → Int32) × (Nat → Nat → Int64) × (Nat → Int32) × Int32 × (Nat → Nat → Int32)) => ([(2, .int (nI k)), (0, .ref 112), (1, .int (nI b0))], (n, sl, kd, a.1, a.2.1, Rf))) (fun k a => zQ n kd I0 L0 Rf a.2.2.2.2 a.1 a.2.1 T a.2.2.1 a.2.2.2.1 ∧ ((∀ v, zup a.2.2.1 (7 + b0) v = zup T.x (7 + b0) v) ∧ zxr T.c H a.2.2.1 ∧ ∀ t, t < k → a.2.2.2.2 129 t = zsd T b0 t)) ?_ ?_ 6 0 (I1, L, T.x, o, g) (by omega) ⟨hQ2, ⟨fun _ => rfl, hO.x, fun t ht => absurd ht (Nat.not_lt_zero t)⟩⟩
  · rintro k ⟨Ia, La, xa, oa, ga⟩ hk ⟨hQ0, hex⟩ ih
    have hQ0 : zQ n kd I0 L0 Rf ga Ia La T xa oa := hQ0
    have hex : ((∀ v, zup xa (7 + b0) v = zup T.x (7 + b0) v) ∧ zxr T.c H xa ∧ ∀ t, t < k → ga 129 t = zsd T b0 t) := hex
    show ez_P _ _ _ _ _ _ 14 [(2, .int (nI k)), (0, .ref 112), (1, .int (nI b0))] [] (n, sl, kd, Ia, La, Rf) _
    refine ez_iload_n (i := 2) dX11_laySides_14 rfl rfl ?_
    refine ez_bipush (v := 6) dX11_laySides_15 (by decide) ?_
    refine ez_icmp_ge (tgt := 51) dX11_laySides_17 (by decide) (fun c3 => absurd c3 (nI_ge (b := 6) hk (by decide))) (fun c3 => ?_)
    refine ez_aload_n (i := 0) dX11_laySides_20 rfl rfl ?_
    refine ez_getR dX11_laySides_21 flX11_49 (hF.lt (by decide)) (hF.kc (by decide) rfl) (hF.pt 117 rfl) ?_
    refine ez_bipush (v := 7) dX11_laySides_24 (by decide) ?_
    refine ez_iload_n (i := 1) dX11_laySides_26 rfl rfl ?_
    refine ez_iadd dX11_laySides_27 ?_
    refine ez_topE (y := nI (7 + b0)) (nI_add _ _) ?_
    refine ez_iload_n (i := 2) dX11_laySides_28 rfl rfl ?_
    refine ez_isN (k := (7 + b0)) dX11_laySides_29 (hF.lt (by decide)) (hF.lx (by decide)) (hF.ka (by decide) rfl) (by omega) (by decide) ?_
    refine ez_nmI (fun I4 hI4 => ?_)
    have hQ5 : zQ n kd I0 L0 Rf ga I4 La T (zup xa (7 + b0) (nI k)) oa := by rw [hI4]; exact hQ0.set
    refine ez_aload_n (i := 0) dX11_laySides_30 rfl rfl ?_
    refine ez_getR dX11_laySides_31 flX11_64 (hF.lt (by decide)) (hF.kc (by decide) rfl) (hF.pt 122 rfl) ?_
    refine ez_iload_n (i := 2) dX11_laySides_34 rfl rfl ?_
    refine ez_aload_n (i := 0) dX11_laySides_35 rfl rfl ?_
    refine ez_aload_n (i := 0) dX11_laySides_36 rfl rfl ?_
    refine ez_getR dX11_laySides_37 flX11_49 (hF.lt (by decide)) (hF.kc (by decide) rfl) (hF.pt 117 rfl) ?_
    refine ez_iconst (v := (-1)) dX11_laySides_40 (by decide) ?_
    refine ez_callV (M1 := mX11_sidesOf) (rest := [.int (nI k), .ref 129]) dX11_laySides_41 mlX11_208 mvX11_sidesOf rfl (hF.lt (by decide)) (hF.kc (by decide) rfl) (Nat.le_of_ble_eq_true rfl) rfl (y_sd (I := I4) (L := La) (d + 42) hQ5.M.W hc7 (Or.inr rfl) hQ5.x (hex.2.1.tho hO.c (b := b0) (by omega) ⟨k, hk, rfl⟩) (by omega)) eb_rok ?_
    rintro _ _ ⟨rfl, rfl⟩
    show ez_P _ _ _ _ _ _ 44 [(2, .int (nI k)), (0, .ref 112), (1, .int (nI b0))] (.int (zst T (zup xa (7 + b0) (nI k))) :: [.int (nI k), .ref 129]) _ _
    refine ez_isN (k := k) dX11_laySides_44 (hF.lt (by decide)) (hF.lx (by decide)) (hF.ka (by decide) rfl) (by omega) (by decide) ?_
    refine ez_nmI (fun I6 hI6 => ?_)
    have hQ7 : zQ n kd I0 L0 Rf (z_set ga 129 k (zst T (zup xa (7 + b0) (nI k)))) I6 La T (zup xa (7 + b0) (nI k)) oa := by rw [hI6]; exact hQ5.gset (by unfold zgc; omega)
    refine ez_iinc (v := (nI (k + 1))) (l' := [(2, .int ((nI (k + 1)))), (0, .ref 112), (1, .int (nI b0))]) dX11_laySides_45 rfl (nI_1 _) (by decide) rfl ?_
    refine ez_goto (tgt := 14) dX11_laySides_48 (by decide) ?_
    exact ez_eq (l2 := [(2, .int (nI (k + 1))), (0, .ref 112), (1, .int (nI b0))]) rfl rfl rfl rfl (ih (I6, La, zup xa (7 + b0) (nI k), oa, z_set ga 129 k (zst T (zup xa (7 + b0) (nI k)))) ⟨hQ7, ⟨fun v => by rw [zup_zup]; exact hex.1 v, hex.2.1.tho hO.c (b := b0) (by omega) ⟨k, hk, rfl⟩, fun t ht => by
        show (z_set ga 129 k (zst T (zup xa (7 + b0) (nI k)))) 129 t = zsd T b0 t
        by_cases e : t = k
        · rw [e, z_set_at, hex.1]; rfl
        · rw [z_set_nk e]; exact hex.2.2 t (by omega)⟩⟩)
  · rintro ⟨Ia, La, xa, oa, ga⟩ ⟨hQ0, hex⟩
    have hQ0 : zQ n kd I0 L0 Rf ga Ia La T xa oa := hQ0
    have hex : ((∀ v, zup xa (7 + b0) v = zup T.x (7 + b0) v) ∧ zxr T.c H xa ∧ ∀ t, t < 6 → ga 129 t = zsd T b0 t) := hex
    show ez_P _ _ _ _ _ _ 14 [(2, .int (nI 6)), (0, .ref 112), (1, .int (nI b0))] [] (n, sl, kd, Ia, La, Rf) _
    refine ez_iload_n (i := 2) dX11_laySides_14 rfl rfl ?_
    refine ez_bipush (v := 6) dX11_laySides_15 (by decide) ?_
    refine ez_icmp_ge (tgt := 51) dX11_laySides_17 (by decide) (fun c8 => ?_) (fun c8 => absurd (by decide) c8)
    refine ez_vret dX11_laySides_51 rfl ?_
    exact ⟨rfl, _, _, _, _, _, rfl, hQ0, hex.2.2⟩
theorem y_X11_pullSeen {n : Nat} {sl : Nat × Nat} {kd : Nat → Nat × Nat} {I : Nat → Nat → Int32} {L : Nat → Nat → Int64} {Rf : Nat → Nat → Option Nat} (d : Nat) {T : zT} {H : Nat} {I0 g : Nat → Nat → Int32} {L0 : Nat → Nat → Int64} {x : Nat → Int32} {o : Int32} (hQ : zQ n kd I0 L0 Rf g I L T x o) (hO : zOk H T) (hH : H ≤ 1000000000) {y : Nat → Int32} (hy : ∀ t, t < 6 → g 129 t = y t) {t0 : Nat} (ht : t0 < 6) (w s : Int32)  : zq mX11_pullSeen (d + 350) [.ref 112, .int (nI t0), .int w, .int s] (n, sl, kd, I, L, Rf) (eb_r (z_pull (y t0) w s) (n, sl, kd, I, L, Rf)) := by
  have hF := hQ.M.F; have hc7 := hO.c
  intro f B
  refine ez_meth pn_X.2.2.2.2.2.2.2.2.2.2.2 (Nat.le_of_ble_eq_true rfl) ?_
  show ez_P _ _ _ _ _ _ 0 [(0, .ref 112), (1, .int (nI t0)), (2, .int w), (3, .int s)] [] (n, sl, kd, I, L, Rf) _
  refine ez_aload_n (i := 0) dX11_pullSeen_0 rfl rfl ?_
  refine ez_getR dX11_pullSeen_1 flX11_64 (hF.lt (by decide)) (hF.kc (by decide) rfl) (hF.pt 122 rfl) ?_
  refine ez_iload_n (i := 1) dX11_pullSeen_4 rfl rfl ?_
  refine ez_iaN (k := t0) dX11_pullSeen_5 (hF.lt (by decide)) (hF.ka (by decide) rfl) (by omega) (by decide) ?_
  refine ez_topE (y := y t0) ((congrFun (hQ.g.1 129 (by unfold zgc; omega)) _).trans (hy _ ht)) ?_
  refine ez_iconst (v := 2) dX11_pullSeen_6 (by decide) ?_
  refine ez_iload_n (i := 2) dX11_pullSeen_7 rfl rfl ?_
  refine ez_imul dX11_pullSeen_8 ?_
  refine ez_iload_n (i := 3) dX11_pullSeen_9 rfl rfl ?_
  refine ez_imul dX11_pullSeen_10 ?_
  refine ez_iadd dX11_pullSeen_11 ?_
  refine ez_callS (M1 := mX11_pullBy) (rest := []) dX11_pullSeen_12 mlX11_218 msX11_pullBy rfl (Nat.le_of_ble_eq_true rfl) rfl (zq_r (q_X11_pullBy (d + 348) ((y t0) + ((2 * w) * s))) (n, sl, kd, I, L, Rf)) eb_rok ?_
  rintro _ _ ⟨rfl, rfl⟩
  show ez_P _ _ _ _ _ _ 15 [(0, .ref 112), (1, .int (nI t0)), (2, .int w), (3, .int s)] (.int (z_put (((y t0) + ((2 * w) * s)) / 8) (-20) 20) :: []) _ _
  refine ez_iret dX11_pullSeen_15 rfl rfl ?_
  exact ⟨rfl, rfl⟩
def b_tis (T : zT) (y : Nat → Int32) (t : Nat) (k : Nat) (a : Int32) : Int32 := if a = 0 then 0 else if z_pull (y t) (zsn T k).1 (zsn T k).2.1 = (zsn T k).2.2 then 1 else 0
def a_tis (T : zT) (y : Nat → Int32) (t : Nat) : Nat → Int32
  | 0 => 1
  | k + 1 => b_tis T y t k (a_tis T y t k)
def b_thk (T : zT) (y : Nat → Int32) (k : Nat) (a : Int32) : Int32 := a ||| (if a_tis T y k T.sn.length = 0 then (0 : Int32) else 1 <<< (nI k &&& 31))
def a_thk (T : zT) (y : Nat → Int32) : Nat → Int32
  | 0 => 0
  | k + 1 => b_thk T y k (a_thk T y k)
theorem y_X11_thinkable {n : Nat} {sl : Nat × Nat} {kd : Nat → Nat × Nat} {I : Nat → Nat → Int32} {L : Nat → Nat → Int64} {Rf : Nat → Nat → Option Nat} (d : Nat) {T : zT} {H : Nat} {I0 g : Nat → Nat → Int32} {L0 : Nat → Nat → Int64} {x : Nat → Int32} {o : Int32} (hQ : zQ n kd I0 L0 Rf g I L T x o) (hO : zOk H T) (hH : H ≤ 1000000000) {y : Nat → Int32} (hy : ∀ t, t < 6 → g 129 t = y t)  : zq mX11_thinkable (d + 351) [.ref 112] (n, sl, kd, I, L, Rf) (eb_r (a_thk T y 6) (n, sl, kd, I, L, Rf)) := by
  have hF := hQ.M.F; have hc7 := hO.c
  intro f B
  refine ez_meth pn_X.2.2.2.2.2.2.2.2.2.2.2 (Nat.le_of_ble_eq_true rfl) ?_
  show ez_P _ _ _ _ _ _ 0 [(0, .ref 112)] [] (n, sl, kd, I, L, Rf) _
  refine ez_iconst (v := 0) dX11_thinkable_0 (by decide) ?_
  refine ez_istore_n (l' := [(1, .int 0), (0, .ref 112)]) dX11_thinkable_1 rfl (by decide) rfl ?_
  refine ez_iconst (v := 0) dX11_thinkable_2 (by decide) ?_
  refine ez_istore_n (l' := [(2, .int 0), (1, .int 0), (0, .ref 112)]) dX11_thinkable_3 rfl (by decide) rfl ?_
  refine ez_eq (l2 := [(2, .int (nI 0)), (1, .int 0), (0, .ref 112)]) (σ2 := (n, sl, kd, I, L, Rf)) rfl rfl rfl rfl ?_
  refine ez_for 6 (fun k (a : Int32) => ([(2, .int (nI k)), (1, .int a), (0, .ref 112)], (n, sl, kd, I, L, Rf))) (fun k a => a = a_thk T y k) ?_ ?_ 6 0 (0) (by omega) rfl
  · rintro k bi hk hac ih
    have hac : bi = a_thk T y k := hac
    show ez_P _ _ _ _ _ _ 4 [(2, .int (nI k)), (1, .int bi), (0, .ref 112)] [] (n, sl, kd, I, L, Rf) _
    refine ez_iload_n (i := 2) dX11_thinkable_4 rfl rfl ?_
    refine ez_bipush (v := 6) dX11_thinkable_5 (by decide) ?_
    refine ez_icmp_ge (tgt := 89) dX11_thinkable_7 (by decide) (fun c1 => absurd c1 (nI_ge (b := 6) hk (by decide))) (fun c1 => ?_)
    refine ez_iconst (v := 1) dX11_thinkable_10 (by decide) ?_
    refine ez_istore_n (l' := [(3, .int 1), (2, .int (nI k)), (1, .int bi), (0, .ref 112)]) dX11_thinkable_11 rfl (by decide) rfl ?_
    refine ez_iconst (v := 0) dX11_thinkable_12 (by decide) ?_
    refine ez_istore (l' := [(4, .int 0), (3, .int 1), (2, .int (nI k)), (1, .int bi), (0, .ref 112)]) dX11_thinkable_13 (by decide) rfl ?_
    refine ez_eq (l2 := [(4, .int (nI 0)), (3, .int 1), (2, .int (nI k)), (1, .int bi), (0, .ref 112)]) (σ2 := (n, sl, kd, I, L, Rf)) rfl rfl rfl rfl ?_
    refine ez_for T.sn.length (fun j (a : Int32) => ([(4, .int (nI j)), (3, .int a), (2, .int (nI k)), (1, .int bi), (0, .ref 112)], (n, sl, kd, I, L, Rf))) (fun j a => a = a_tis T y k j) ?_ ?_ T.sn.length 0 (1) (by omega) rfl
    · rintro j is hk2 hac2 ih2
      have hac2 : is = a_tis T y k j := hac2
      show ez_P _ _ _ _ _ _ 15 [(4, .int (nI j)), (3, .int is), (2, .int (nI k)), (1, .int bi), (0, .ref 112)] [] (n, sl, kd, I, L, Rf) _
      refine ez_iload (i := 4) dX11_thinkable_15 rfl ?_
      refine ez_aload_n (i := 0) dX11_thinkable_17 rfl rfl ?_
      refine ez_getI dX11_thinkable_18 flX11_330 (hF.lt (by decide)) (hF.kc (by decide) rfl) ?_
      refine ez_topE (y := nI T.sn.length) hQ.M.sn.1 ?_
      refine ez_icmp_ge (tgt := 69) dX11_thinkable_21 (by decide) (fun c2 => absurd c2 (nI_ge hk2 (by have := hO.snl; omega))) (fun c2 => ?_)
      refine ez_iload_n (i := 3) dX11_thinkable_24 rfl rfl ?_
      refine ez_if_eq (tgt := 61) dX11_thinkable_25 (by decide) (fun c3 => ?_) (fun c3 => ?_)
      · skip
        refine ez_iconst (v := 0) dX11_thinkable_61 (by decide) ?_
        refine ez_istore_n (l' := [(3, .int 0), (4, .int (nI j)), (2, .int (nI k)), (1, .int bi), (0, .ref 112)]) dX11_thinkable_62 rfl (by decide) rfl ?_
        refine ez_iinc (v := (nI (j + 1))) (l' := [(4, .int ((nI (j + 1)))), (3, .int 0), (2, .int (nI k)), (1, .int bi), (0, .ref 112)]) dX11_thinkable_63 rfl (nI_1 _) (by decide) rfl ?_
        refine ez_goto (tgt := 15) dX11_thinkable_66 (by decide) ?_
        exact ez_eq (l2 := [(4, .int (nI (j + 1))), (3, .int 0), (2, .int (nI k)), (1, .int bi), (0, .ref 112)]) rfl rfl rfl rfl (ih2 (0) (by rw [a_tis, ← hac2, b_tis]; simp only [if_pos c3]))
      · skip
        refine ez_aload_n (i := 0) dX11_thinkable_28 rfl rfl ?_
        refine ez_iload_n (i := 2) dX11_thinkable_29 rfl rfl ?_
        refine ez_aload_n (i := 0) dX11_thinkable_30 rfl rfl ?_
        refine ez_getR dX11_thinkable_31 flX11_55 (hF.lt (by decide)) (hF.kc (by decide) rfl) (hF.pt 119 rfl) ?_
        refine ez_iload (i := 4) dX11_thinkable_34 rfl ?_
        refine ez_iaN (k := j) dX11_thinkable_36 (hF.lt (by decide)) (hF.ka (by decide) rfl) (by have := hO.snl; omega) (by decide) ?_
        refine ez_topE (y := (zsn T j).1) (hQ.M.sn.2 _ _ (zsn_at (by omega))).1 ?_
        refine ez_aload_n (i := 0) dX11_thinkable_37 rfl rfl ?_
        refine ez_getR dX11_thinkable_38 flX11_58 (hF.lt (by decide)) (hF.kc (by decide) rfl) (hF.pt 120 rfl) ?_
        refine ez_iload (i := 4) dX11_thinkable_41 rfl ?_
        refine ez_iaN (k := j) dX11_thinkable_43 (hF.lt (by decide)) (hF.ka (by decide) rfl) (by have := hO.snl; omega) (by decide) ?_
        refine ez_topE (y := (zsn T j).2.1) (hQ.M.sn.2 _ _ (zsn_at (by omega))).2.1 ?_
        refine ez_callV (M1 := mX11_pullSeen) (rest := []) dX11_thinkable_44 mlX11_333 mvX11_pullSeen rfl (hF.lt (by decide)) (hF.kc (by decide) rfl) (Nat.le_of_ble_eq_true rfl) rfl (y_X11_pullSeen (I := I) (L := L) (d + 0) hQ hO hH hy (t0 := k) (by omega) ((zsn T j).1) ((zsn T j).2.1)) eb_rok ?_
        rintro _ _ ⟨rfl, rfl⟩
        show ez_P _ _ _ _ _ _ 47 [(4, .int (nI j)), (3, .int is), (2, .int (nI k)), (1, .int bi), (0, .ref 112)] (.int (z_pull (y k) ((zsn T j).1) ((zsn T j).2.1)) :: []) _ _
        refine ez_aload_n (i := 0) dX11_thinkable_47 rfl rfl ?_
        refine ez_getR dX11_thinkable_48 flX11_61 (hF.lt (by decide)) (hF.kc (by decide) rfl) (hF.pt 121 rfl) ?_
        refine ez_iload (i := 4) dX11_thinkable_51 rfl ?_
        refine ez_iaN (k := j) dX11_thinkable_53 (hF.lt (by decide)) (hF.ka (by decide) rfl) (by have := hO.snl; omega) (by decide) ?_
        refine ez_topE (y := (zsn T j).2.2) (hQ.M.sn.2 _ _ (zsn_at (by omega))).2.2 ?_
        refine ez_icmp_ne (tgt := 61) dX11_thinkable_54 (by decide) (fun c4 => ?_) (fun c4 => ?_)
        · skip
          refine ez_iconst (v := 0) dX11_thinkable_61 (by decide) ?_
          refine ez_istore_n (l' := [(3, .int 0), (4, .int (nI j)), (2, .int (nI k)), (1, .int bi), (0, .ref 112)]) dX11_thinkable_62 rfl (by decide) rfl ?_
          refine ez_iinc (v := (nI (j + 1))) (l' := [(4, .int ((nI (j + 1)))), (3, .int 0), (2, .int (nI k)), (1, .int bi), (0, .ref 112)]) dX11_thinkable_63 rfl (nI_1 _) (by decide) rfl ?_
          refine ez_goto (tgt := 15) dX11_thinkable_66 (by decide) ?_
          exact ez_eq (l2 := [(4, .int (nI (j + 1))), (3, .int 0), (2, .int (nI k)), (1, .int bi), (0, .ref 112)]) rfl rfl rfl rfl (ih2 (0) (by rw [a_tis, ← hac2, b_tis]; simp only [if_neg c3, if_neg c4]))
        · skip
          refine ez_iconst (v := 1) dX11_thinkable_57 (by decide) ?_
          refine ez_goto (tgt := 62) dX11_thinkable_58 (by decide) ?_
          refine ez_istore_n (l' := [(3, .int 1), (4, .int (nI j)), (2, .int (nI k)), (1, .int bi), (0, .ref 112)]) dX11_thinkable_62 rfl (by decide) rfl ?_
          refine ez_iinc (v := (nI (j + 1))) (l' := [(4, .int ((nI (j + 1)))), (3, .int 1), (2, .int (nI k)), (1, .int bi), (0, .ref 112)]) dX11_thinkable_63 rfl (nI_1 _) (by decide) rfl ?_
          refine ez_goto (tgt := 15) dX11_thinkable_66 (by decide) ?_
          exact ez_eq (l2 := [(4, .int (nI (j + 1))), (3, .int 1), (2, .int (nI k)), (1, .int bi), (0, .ref 112)]) rfl rfl rfl rfl (ih2 (1) (by rw [a_tis, ← hac2, b_tis]; simp only [if_neg c3, if_pos (Classical.not_not.mp c4)]))
    · rintro is hac2
      have hac2 : is = a_tis T y k T.sn.length := hac2
      show ez_P _ _ _ _ _ _ 15 [(4, .int (nI T.sn.length)), (3, .int is), (2, .int (nI k)), (1, .int bi), (0, .ref 112)] [] (n, sl, kd, I, L, Rf) _
      refine ez_iload (i := 4) dX11_thinkable_15 rfl ?_
      refine ez_aload_n (i := 0) dX11_thinkable_17 rfl rfl ?_
      refine ez_getI dX11_thinkable_18 flX11_330 (hF.lt (by decide)) (hF.kc (by decide) rfl) ?_
      refine ez_topE (y := nI T.sn.length) hQ.M.sn.1 ?_
      refine ez_icmp_ge (tgt := 69) dX11_thinkable_21 (by decide) (fun c5 => ?_) (fun c5 => absurd (nI_le (Nat.le_refl _) (by have := hO.snl; omega)) c5)
      refine ez_iload_n (i := 1) dX11_thinkable_69 rfl rfl ?_
      refine ez_iload_n (i := 3) dX11_thinkable_70 rfl rfl ?_
      refine ez_if_eq (tgt := 80) dX11_thinkable_71 (by decide) (fun c6 => ?_) (fun c6 => ?_)
      · skip
        refine ez_iconst (v := 0) dX11_thinkable_80 (by decide) ?_
        refine ez_ior dX11_thinkable_81 ?_
        refine ez_istore_n (l' := [(1, .int (bi ||| 0)), (4, .int (nI T.sn.length)), (3, .int is), (2, .int (nI k)), (0, .ref 112)]) dX11_thinkable_82 rfl (by decide) rfl ?_
        refine ez_iinc (v := (nI (k + 1))) (l' := [(2, .int ((nI (k + 1)))), (1, .int (bi ||| 0)), (4, .int (nI T.sn.length)), (3, .int is), (0, .ref 112)]) dX11_thinkable_83 rfl (nI_1 _) (by decide) rfl ?_
        refine ez_goto (tgt := 4) dX11_thinkable_86 (by decide) ?_
        refine ez_sub (l' := [(2, .int ((nI (k + 1)))), (1, .int (bi ||| 0)), (0, .ref 112)]) [0, 1, 4] rfl ?_
        exact ez_eq (l2 := [(2, .int (nI (k + 1))), (1, .int (bi ||| 0)), (0, .ref 112)]) rfl rfl rfl rfl (ih (bi ||| 0) (by rw [a_thk, ← hac, b_thk, ← hac2]; simp only [if_pos c6]))
      · skip
        refine ez_iconst (v := 1) dX11_thinkable_74 (by decide) ?_
        refine ez_iload_n (i := 2) dX11_thinkable_75 rfl rfl ?_
        refine ez_ishl dX11_thinkable_76 ?_
        refine ez_goto (tgt := 81) dX11_thinkable_77 (by decide) ?_
        refine ez_ior dX11_thinkable_81 ?_
        refine ez_istore_n (l' := [(1, .int (bi ||| (1 <<< ((nI k) &&& 31)))), (4, .int (nI T.sn.length)), (3, .int is), (2, .int (nI k)), (0, .ref 112)]) dX11_thinkable_82 rfl (by decide) rfl ?_
        refine ez_iinc (v := (nI (k + 1))) (l' := [(2, .int ((nI (k + 1)))), (1, .int (bi ||| (1 <<< ((nI k) &&& 31)))), (4, .int (nI T.sn.length)), (3, .int is), (0, .ref 112)]) dX11_thinkable_83 rfl (nI_1 _) (by decide) rfl ?_
        refine ez_goto (tgt := 4) dX11_thinkable_86 (by decide) ?_
        refine ez_sub (l' := [(2, .int ((nI (k + 1)))), (1, .int (bi ||| (1 <<< ((nI k) &&& 31)))), (0, .ref 112)]) [0, 1, 4] rfl ?_
        exact ez_eq (l2 := [(2, .int (nI (k + 1))), (1, .int (bi ||| (1 <<< ((nI k) &&& 31)))), (0, .ref 112)]) rfl rfl rfl rfl (ih (bi ||| (1 <<< ((nI k) &&& 31))) (by rw [a_thk, ← hac, b_thk, ← hac2]; simp only [if_neg c6]))
  · rintro bi hac
    have hac : bi = a_thk T y 6 := hac
    show ez_P _ _ _ _ _ _ 4 [(2, .int (nI 6)), (1, .int bi), (0, .ref 112)] [] (n, sl, kd, I, L, Rf) _
    refine ez_iload_n (i := 2) dX11_thinkable_4 rfl rfl ?_
    refine ez_bipush (v := 6) dX11_thinkable_5 (by decide) ?_
    refine ez_icmp_ge (tgt := 89) dX11_thinkable_7 (by decide) (fun c7 => ?_) (fun c7 => absurd (by decide) c7)
    refine ez_iload_n (i := 1) dX11_thinkable_89 rfl rfl ?_
    refine ez_iret dX11_thinkable_90 rfl rfl ?_
    rw [hac]; exact ⟨rfl, rfl⟩
def s_minds (T : zT) (b : Int32) : Int32 × zT := if 0 ≤ b ∧ b < nI T.c then (a_thk T (zsd T b.toNatClampNeg) 6, T.w_rw [(z_bc (a_thk T (zsd T b.toNatClampNeg) 6)).toInt64, ((a_thk T (zsd T b.toNatClampNeg) 6) >>> (T.x (7 + b.toNatClampNeg) &&& 31) &&& 1).toInt64]) else (-1, T)
theorem y_X11_minds_ok {n : Nat} {sl : Nat × Nat} {kd : Nat → Nat × Nat} {I : Nat → Nat → Int32} {L : Nat → Nat → Int64} {Rf : Nat → Nat → Option Nat} (d : Nat) {T : zT} {H : Nat} (hM : zM n kd I L Rf T) (hO : zOk H T) (hH : H ≤ 1000000000) {b0 : Nat} (hb : b0 < T.c)  : zq mX11_minds (d + 400) [.ref 112, .int (nI b0)] (n, sl, kd, I, L, Rf) (zpM n sl kd I L Rf (some (.int (s_minds T (nI b0)).1)) (s_minds T (nI b0)).2) := by
  have hF := hM.F; have hc7 := hO.c
  have hsp : s_minds T (nI b0) = (a_thk T (zsd T b0) 6, T.w_rw [(z_bc (a_thk T (zsd T b0) 6)).toInt64, ((a_thk T (zsd T b0) 6) >>> (T.x (7 + b0) &&& 31) &&& 1).toInt64]) := (by unfold s_minds; rw [if_pos ⟨(z_bin hb hO.c).1, (z_bin hb hO.c).2⟩, nI_clamp (by omega)])
  rw [hsp]
  intro f B
  refine ez_meth pn_X.2.2.2.2.2.2.2.2.2.2.2 (Nat.le_of_ble_eq_true rfl) ?_
  show ez_P _ _ _ _ _ _ 0 [(0, .ref 112), (1, .int (nI b0))] [] (n, sl, kd, I, L, Rf) _
  refine ez_aload_n (i := 0) dX11_minds_0 rfl rfl ?_
  refine ez_iconst (v := 0) dX11_minds_1 (by decide) ?_
  refine ez_pI dX11_minds_2 plX11_89 (hF.lt (by decide)) (hF.lx (by decide)) (hF.kc (by decide) rfl) rfl rfl ?_
  refine ez_nmI (fun I1 hI1 => ?_)
  have hQ2 : zQ n kd I L Rf I I1 L T (I 124) (I 112 25) := by rw [hI1]; exact zQ.start hM
  refine ez_aload_n (i := 0) dX11_minds_5 rfl rfl ?_
  refine ez_iload_n (i := 1) dX11_minds_6 rfl rfl ?_
  refine ez_callV (M1 := mX11_isOne) (rest := []) dX11_minds_7 mlX11_221 mvX11_isOne rfl (hF.lt (by decide)) (hF.kc (by decide) rfl) (Nat.le_of_ble_eq_true rfl) rfl (zq_b1 (z_bin hb hO.c) (y_X11_isOne (I := I1) (L := L) (d + 398) hF hQ2.M.c hO.c (nI b0))) eb_rok ?_
  rintro _ _ ⟨rfl, rfl⟩
  show ez_P _ _ _ _ _ _ 10 [(0, .ref 112), (1, .int (nI b0))] (.int 1 :: []) _ _
  refine ez_if_ne (tgt := 15) dX11_minds_10 (by decide) (fun c3 => ?_) (fun c3 => absurd (by decide) c3)
  refine ez_aload_n (i := 0) dX11_minds_15 rfl rfl ?_
  refine ez_iload_n (i := 1) dX11_minds_16 rfl rfl ?_
  refine ez_callV (M1 := mX11_laySides) (rest := []) dX11_minds_17 mlX11_337 mvX11_laySides rfl (hF.lt (by decide)) (hF.kc (by decide) rfl) (Nat.le_of_ble_eq_true rfl) rfl (y_X11_laySides (I := I1) (L := L) (d + 49) hQ2 hO hH hb) zpG_ok ?_
  rintro _ _ ⟨rfl, I4, L5, x6, o7, g8, rfl, hQ9, hy⟩
  show ez_P _ _ _ _ _ _ 20 [(0, .ref 112), (1, .int (nI b0))] [] (n, sl, kd, I4, L5, Rf) _
  refine ez_aload_n (i := 0) dX11_minds_20 rfl rfl ?_
  refine ez_callV (M1 := mX11_thinkable) (rest := []) dX11_minds_21 mlX11_340 mvX11_thinkable rfl (hF.lt (by decide)) (hF.kc (by decide) rfl) (Nat.le_of_ble_eq_true rfl) rfl (y_X11_thinkable (I := I4) (L := L5) (d + 48) hQ9 hO hH hy) eb_rok ?_
  rintro _ _ ⟨rfl, rfl⟩
  show ez_P _ _ _ _ _ _ 24 [(0, .ref 112), (1, .int (nI b0))] (.int (a_thk T (zsd T b0) 6) :: []) _ _
  refine ez_istore_n (l' := [(2, .int (a_thk T (zsd T b0) 6)), (0, .ref 112), (1, .int (nI b0))]) dX11_minds_24 rfl (by decide) rfl ?_
  refine ez_aload_n (i := 0) dX11_minds_25 rfl rfl ?_
  refine ez_iconst (v := 0) dX11_minds_26 (by decide) ?_
  refine ez_pI dX11_minds_27 plX11_92 (hF.lt (by decide)) (hF.lx (by decide)) (hF.kc (by decide) rfl) rfl rfl ?_
  refine ez_nmI (fun I10 hI10 => ?_)
  have hQ11 : zQ n kd I L Rf g8 I10 L5 (T.w_rw []) x6 o7 := by rw [hI10]; exact hQ9.row0
  refine ez_aload_n (i := 0) dX11_minds_30 rfl rfl ?_
  refine ez_iload_n (i := 2) dX11_minds_31 rfl rfl ?_
  refine ez_callS (M1 := mJ6_bitCount_0f7a4) (rest := [.ref 112]) dX11_minds_32 mlX11_319 msJ6_bitCount_0f7a4 rfl (Nat.le_of_ble_eq_true rfl) rfl (zq_r (fun σ => q_J6_bitCount_0f7a4 (σ := σ) (d + 399) (a_thk T (zsd T b0) 6)) (n, sl, kd, I10, L5, Rf)) eb_rok ?_
  rintro _ _ ⟨rfl, rfl⟩
  show ez_P _ _ _ _ _ _ 35 [(2, .int (a_thk T (zsd T b0) 6)), (0, .ref 112), (1, .int (nI b0))] (.int (z_bc (a_thk T (zsd T b0) 6)) :: [.ref 112]) _ _
  refine ez_i2l dX11_minds_35 rfl ?_
  refine ez_callV (M1 := mX11_tell) (rest := []) dX11_minds_36 mlX11_252 mvX11_tell rfl (hF.lt (by decide)) (hF.kc (by decide) rfl) (Nat.le_of_ble_eq_true rfl) rfl (y_X11_tell (I := I10) (L := L5) (d + 399) hF (k := 0) hQ11.M.rw.1 (by decide) ((z_bc (a_thk T (zsd T b0) 6)).toInt64)) (eb_vok rfl) ?_
  rintro _ _ ⟨rfl, rfl⟩
  refine ez_nmI (fun I12 hI12 => ?_)
  refine ez_nmL (fun L13 hL13 => ?_)
  show ez_P _ _ _ _ _ _ 39 [(2, .int (a_thk T (zsd T b0) 6)), (0, .ref 112), (1, .int (nI b0))] [] (n, sl, kd, I12, L13, Rf) _
  have hQ14 : zQ n kd I L Rf g8 I12 L13 (T.w_rw [(z_bc (a_thk T (zsd T b0) 6)).toInt64]) x6 o7 := by rw [hI12, hL13]; exact hQ11.tell ((z_bc (a_thk T (zsd T b0) 6)).toInt64)
  refine ez_aload_n (i := 0) dX11_minds_39 rfl rfl ?_
  refine ez_iload_n (i := 2) dX11_minds_40 rfl rfl ?_
  refine ez_aload_n (i := 0) dX11_minds_41 rfl rfl ?_
  refine ez_getR dX11_minds_42 flX11_9 (hF.lt (by decide)) (hF.kc (by decide) rfl) (hF.pt 107 rfl) ?_
  refine ez_bipush (v := 7) dX11_minds_45 (by decide) ?_
  refine ez_iload_n (i := 1) dX11_minds_47 rfl rfl ?_
  refine ez_iadd dX11_minds_48 ?_
  refine ez_topE (y := nI (7 + b0)) (nI_add _ _) ?_
  refine ez_iaN (k := (7 + b0)) dX11_minds_49 (hF.lt (by decide)) (hF.ka (by decide) rfl) (by omega) (by decide) ?_
  refine ez_topE (y := T.x (7 + b0)) (hQ14.M.x _ (by omega)) ?_
  refine ez_ishr dX11_minds_50 ?_
  refine ez_iconst (v := 1) dX11_minds_51 (by decide) ?_
  refine ez_iand dX11_minds_52 ?_
  refine ez_i2l dX11_minds_53 rfl ?_
  refine ez_callV (M1 := mX11_tell) (rest := []) dX11_minds_54 mlX11_252 mvX11_tell rfl (hF.lt (by decide)) (hF.kc (by decide) rfl) (Nat.le_of_ble_eq_true rfl) rfl (y_X11_tell (I := I12) (L := L13) (d + 399) hF (k := 1) hQ14.M.rw.1 (by decide) ((((a_thk T (zsd T b0) 6) >>> ((T.x (7 + b0)) &&& 31)) &&& 1).toInt64)) (eb_vok rfl) ?_
  rintro _ _ ⟨rfl, rfl⟩
  refine ez_nmI (fun I15 hI15 => ?_)
  refine ez_nmL (fun L16 hL16 => ?_)
  show ez_P _ _ _ _ _ _ 57 [(2, .int (a_thk T (zsd T b0) 6)), (0, .ref 112), (1, .int (nI b0))] [] (n, sl, kd, I15, L16, Rf) _
  have hQ17 : zQ n kd I L Rf g8 I15 L16 (T.w_rw [(z_bc (a_thk T (zsd T b0) 6)).toInt64, (((a_thk T (zsd T b0) 6) >>> ((T.x (7 + b0)) &&& 31)) &&& 1).toInt64]) x6 o7 := by rw [hI15, hL16]; exact hQ14.tell ((((a_thk T (zsd T b0) 6) >>> ((T.x (7 + b0)) &&& 31)) &&& 1).toInt64)
  refine ez_iload_n (i := 2) dX11_minds_57 rfl rfl ?_
  refine ez_iret dX11_minds_58 rfl rfl ?_
  exact hQ17.end
theorem y_X11_minds_no {n : Nat} {sl : Nat × Nat} {kd : Nat → Nat × Nat} {I : Nat → Nat → Int32} {L : Nat → Nat → Int64} {Rf : Nat → Nat → Option Nat} (d : Nat) {T : zT} {H : Nat} (hM : zM n kd I L Rf T) (hO : zOk H T) (hH : H ≤ 1000000000) {v : Int32} (hn : ¬ (0 ≤ v ∧ v < nI T.c))  : zq mX11_minds (d + 400) [.ref 112, .int v] (n, sl, kd, I, L, Rf) (zpM n sl kd I L Rf (some (.int (s_minds T v).1)) (s_minds T v).2) := by
  have hF := hM.F; have hc7 := hO.c
  have hsp : s_minds T v = ((-1), T) := (by unfold s_minds; rw [if_neg hn])
  rw [hsp]
  intro f B
  refine ez_meth pn_X.2.2.2.2.2.2.2.2.2.2.2 (Nat.le_of_ble_eq_true rfl) ?_
  show ez_P _ _ _ _ _ _ 0 [(0, .ref 112), (1, .int v)] [] (n, sl, kd, I, L, Rf) _
  refine ez_aload_n (i := 0) dX11_minds_0 rfl rfl ?_
  refine ez_iconst (v := 0) dX11_minds_1 (by decide) ?_
  refine ez_pI dX11_minds_2 plX11_89 (hF.lt (by decide)) (hF.lx (by decide)) (hF.kc (by decide) rfl) rfl rfl ?_
  refine ez_nmI (fun I1 hI1 => ?_)
  have hQ2 : zQ n kd I L Rf I I1 L T (I 124) (I 112 25) := by rw [hI1]; exact zQ.start hM
  refine ez_aload_n (i := 0) dX11_minds_5 rfl rfl ?_
  refine ez_iload_n (i := 1) dX11_minds_6 rfl rfl ?_
  refine ez_callV (M1 := mX11_isOne) (rest := []) dX11_minds_7 mlX11_221 mvX11_isOne rfl (hF.lt (by decide)) (hF.kc (by decide) rfl) (Nat.le_of_ble_eq_true rfl) rfl (zq_b0 hn (y_X11_isOne (I := I1) (L := L) (d + 398) hF hQ2.M.c hO.c v)) eb_rok ?_
  rintro _ _ ⟨rfl, rfl⟩
  show ez_P _ _ _ _ _ _ 10 [(0, .ref 112), (1, .int v)] (.int 0 :: []) _ _
  refine ez_if_ne (tgt := 15) dX11_minds_10 (by decide) (fun c3 => absurd c3 (by decide)) (fun c3 => ?_)
  refine ez_iconst (v := (-1)) dX11_minds_13 (by decide) ?_
  refine ez_iret dX11_minds_14 rfl rfl ?_
  exact hQ2.end
theorem y_X11_minds {n : Nat} {sl : Nat × Nat} {kd : Nat → Nat × Nat} {I : Nat → Nat → Int32} {L : Nat → Nat → Int64} {Rf : Nat → Nat → Option Nat} (d : Nat) {T : zT} {H : Nat} (hM : zM n kd I L Rf T) (hO : zOk H T) (hH : H ≤ 1000000000) (v : Int32) : zq mX11_minds (d + 400) [.ref 112, .int v] (n, sl, kd, I, L, Rf) (zpM n sl kd I L Rf (some (.int (s_minds T v).1)) (s_minds T v).2) := by
  by_cases hn : 0 ≤ v ∧ v < nI T.c
  · obtain ⟨b0, hb, rfl⟩ := pk_of (by have := hO.c; omega) hn.1 hn.2
    exact y_X11_minds_ok d hM hO hH hb
  · exact y_X11_minds_no d hM hO hH hn
def b_lkn (bi : Int32) (y : Nat → Int32) (w s : Int32) (t : Nat) (k : Nat) (a : Int32) : Int32 := a + (if bi >>> (nI t &&& 31) &&& 1 = 1 then (if bi >>> (nI k &&& 31) &&& 1 = 1 then (if z_pull (y k) w s = z_pull (y t) w s then 1 else 0) else 0) else 0)
def a_lkn (bi : Int32) (y : Nat → Int32) (w s : Int32) (t : Nat) : Nat → Int32
  | 0 => 0
  | k + 1 => b_lkn bi y w s t k (a_lkn bi y w s t k)
def b_lkm (bi : Int32) (y : Nat → Int32) (w s : Int32) (k : Nat) (a : Int32) : Int32 := if a < a_lkn bi y w s k 6 then a_lkn bi y w s k 6 else a
def a_lkm (bi : Int32) (y : Nat → Int32) (w s : Int32) : Nat → Int32
  | 0 => 0
  | k + 1 => b_lkm bi y w s k (a_lkm bi y w s k)
def b_lks (bi : Int32) (y : Nat → Int32) (q : Nat) (a0 : Int32 × Int32) (k : Nat) (a : Int32 × Int32) : Int32 × Int32 := if a_lkm bi y (nI q - 9) (nI k) 6 < a.2 then (nI (10 * q + k), a_lkm bi y (nI q - 9) (nI k) 6) else a
def a_lks (bi : Int32) (y : Nat → Int32) (q : Nat) (a0 : Int32 × Int32) : Nat → Int32 × Int32
  | 0 => a0
  | k + 1 => b_lks bi y q a0 k (a_lks bi y q a0 k)
def b_lkw (bi : Int32) (y : Nat → Int32) (k : Nat) (a : Int32 × Int32) : Int32 × Int32 := a_lks bi y k a 10
def a_lkw (bi : Int32) (y : Nat → Int32) : Nat → Int32 × Int32
  | 0 => (-1, 1000000)
  | k + 1 => b_lkw bi y k (a_lkw bi y k)
theorem z_99 (k : Nat) : 9 + (nI k - 9) = nI k := by rw [Int32.add_comm, Int32.sub_add_cancel]
theorem z_k9 : ∀ k, k < 19 → nI k - 9 ≤ 9 := by decide +kernel
def s_looks (T : zT) (b : Int32) : Int32 × zT := if 0 ≤ b ∧ b < nI T.c then (if a_thk T (zsd T b.toNatClampNeg) 6 = 0 then (-2, T) else ((a_lkw (a_thk T (zsd T b.toNatClampNeg) 6) (zsd T b.toNatClampNeg) 19).1, T.w_rw [(a_lkw (a_thk T (zsd T b.toNatClampNeg) 6) (zsd T b.toNatClampNeg) 19).2.toInt64])) else (-1, T)
theorem y_X11_looks_ok {n : Nat} {sl : Nat × Nat} {kd : Nat → Nat × Nat} {I : Nat → Nat → Int32} {L : Nat → Nat → Int64} {Rf : Nat → Nat → Option Nat} (d : Nat) {T : zT} {H : Nat} (hM : zM n kd I L Rf T) (hO : zOk H T) (hH : H ≤ 1000000000) {b0 : Nat} (hb : b0 < T.c)  : zq mX11_looks (d + 400) [.ref 112, .int (nI b0)] (n, sl, kd, I, L, Rf) (zpM n sl kd I L Rf (some (.int (s_looks T (nI b0)).1)) (s_looks T (nI b0)).2) := by
  have hF := hM.F; have hc7 := hO.c
  intro f B
  refine ez_meth pn_X.2.2.2.2.2.2.2.2.2.2.2 (Nat.le_of_ble_eq_true rfl) ?_
  show ez_P _ _ _ _ _ _ 0 [(0, .ref 112), (1, .int (nI b0))] [] (n, sl, kd, I, L, Rf) _
  refine ez_aload_n (i := 0) dX11_looks_0 rfl rfl ?_
  refine ez_iconst (v := 0) dX11_looks_1 (by decide) ?_
  refine ez_pI dX11_looks_2 plX11_89 (hF.lt (by decide)) (hF.lx (by decide)) (hF.kc (by decide) rfl) rfl rfl ?_
  refine ez_nmI (fun I1 hI1 => ?_)
  have hQ2 : zQ n kd I L Rf I I1 L T (I 124) (I 112 25) := by rw [hI1]; exact zQ.start hM
  refine ez_aload_n (i := 0) dX11_looks_5 rfl rfl ?_
  refine ez_iload_n (i := 1) dX11_looks_6 rfl rfl ?_
  refine ez_callV (M1 := mX11_isOne) (rest := []) dX11_looks_7 mlX11_221 mvX11_isOne rfl (hF.lt (by decide)) (hF.kc (by decide) rfl) (Nat.le_of_ble_eq_true rfl) rfl (zq_b1 (z_bin hb hO.c) (y_X11_isOne (I := I1) (L := L) (d + 398) hF hQ2.M.c hO.c (nI b0))) eb_rok ?_
  rintro _ _ ⟨rfl, rfl⟩
  show ez_P _ _ _ _ _ _ 10 [(0, .ref 112), (1, .int (nI b0))] (.int 1 :: []) _ _
  refine ez_if_ne (tgt := 15) dX11_looks_10 (by decide) (fun c3 => ?_) (fun c3 => absurd (by decide) c3)
  refine ez_aload_n (i := 0) dX11_looks_15 rfl rfl ?_
  refine ez_iload_n (i := 1) dX11_looks_16 rfl rfl ?_
  refine ez_callV (M1 := mX11_laySides) (rest := []) dX11_looks_17 mlX11_337 mvX11_laySides rfl (hF.lt (by decide)) (hF.kc (by decide) rfl) (Nat.le_of_ble_eq_true rfl) rfl (y_X11_laySides (I := I1) (L := L) (d + 49) hQ2 hO hH hb) zpG_ok ?_
  rintro _ _ ⟨rfl, I4, L5, x6, o7, g8, rfl, hQ9, hy⟩
  show ez_P _ _ _ _ _ _ 20 [(0, .ref 112), (1, .int (nI b0))] [] (n, sl, kd, I4, L5, Rf) _
  refine ez_aload_n (i := 0) dX11_looks_20 rfl rfl ?_
  refine ez_callV (M1 := mX11_thinkable) (rest := []) dX11_looks_21 mlX11_340 mvX11_thinkable rfl (hF.lt (by decide)) (hF.kc (by decide) rfl) (Nat.le_of_ble_eq_true rfl) rfl (y_X11_thinkable (I := I4) (L := L5) (d + 48) hQ9 hO hH hy) eb_rok ?_
  rintro _ _ ⟨rfl, rfl⟩
  show ez_P _ _ _ _ _ _ 24 [(0, .ref 112), (1, .int (nI b0))] (.int (a_thk T (zsd T b0) 6) :: []) _ _
  refine ez_istore_n (l' := [(2, .int (a_thk T (zsd T b0) 6)), (0, .ref 112), (1, .int (nI b0))]) dX11_looks_24 rfl (by decide) rfl ?_
  refine ez_iload_n (i := 2) dX11_looks_25 rfl rfl ?_
  refine ez_if_ne (tgt := 32) dX11_looks_26 (by decide) (fun c10 => ?_) (fun c10 => ?_)
  · skip
    have hne : ¬ a_thk T (zsd T b0) 6 = 0 := c10
    generalize hbi : a_thk T (zsd T b0) 6 = bi at *
    refine ez_iconst (v := (-1)) dX11_looks_32 (by decide) ?_
    refine ez_istore_n (l' := [(3, .int ((-1))), (2, .int bi), (0, .ref 112), (1, .int (nI b0))]) dX11_looks_33 rfl (by decide) rfl ?_
    refine ez_ldcw (v := 1000000) dX11_looks_34 kcX11_284 ?_
    refine ez_istore (l' := [(4, .int 1000000), (3, .int ((-1))), (2, .int bi), (0, .ref 112), (1, .int (nI b0))]) dX11_looks_37 (by decide) rfl ?_
    refine ez_bipush (v := (-9)) dX11_looks_39 (by decide) ?_
    refine ez_istore (l' := [(5, .int ((-9))), (4, .int 1000000), (3, .int ((-1))), (2, .int bi), (0, .ref 112), (1, .int (nI b0))]) dX11_looks_41 (by decide) rfl ?_
    refine ez_eq (l2 := [(5, .int ((nI 0 - 9))), (4, .int 1000000), (3, .int ((-1))), (2, .int bi), (0, .ref 112), (1, .int (nI b0))]) rfl (by rw [show (nI 0 - 9 : Int32) = -9 from by decide]) rfl rfl ?_
    refine ez_eq (l2 := [(5, .int ((nI 0 - 9))), (4, .int 1000000), (3, .int ((-1))), (2, .int bi), (0, .ref 112), (1, .int (nI b0))]) (σ2 := (n, sl, kd, I4, L5, Rf)) rfl rfl rfl rfl ?_
    refine ez_for 19 (fun k (a : Int32 × Int32) => ([(5, .int ((nI k - 9))), (4, .int a.2), (3, .int a.1), (2, .int bi), (0, .ref 112), (1, .int (nI b0))], (n, sl, kd, I4, L5, Rf))) (fun k a => (a.1, a.2) = a_lkw bi (zsd T b0) k) ?_ ?_ 19 0 ((-1), 1000000) (by omega) rfl
    · rintro k ⟨be, ls⟩ hk hac ih
      have hac : (be, ls) = a_lkw bi (zsd T b0) k := hac
      show ez_P _ _ _ _ _ _ 43 [(5, .int ((nI k - 9))), (4, .int ls), (3, .int be), (2, .int bi), (0, .ref 112), (1, .int (nI b0))] [] (n, sl, kd, I4, L5, Rf) _
      refine ez_iload (i := 5) dX11_looks_43 rfl ?_
      refine ez_bipush (v := 9) dX11_looks_45 (by decide) ?_
      refine ez_icmp_gt (tgt := 196) dX11_looks_47 (by decide) (fun c11 => absurd c11 (Int32.not_lt.mpr (z_k9 k hk))) (fun c11 => ?_)
      refine ez_iconst (v := 0) dX11_looks_50 (by decide) ?_
      refine ez_istore (l' := [(6, .int 0), (5, .int ((nI k - 9))), (4, .int ls), (3, .int be), (2, .int bi), (0, .ref 112), (1, .int (nI b0))]) dX11_looks_51 (by decide) rfl ?_
      refine ez_sub (l' := [(6, .int 0), (4, .int ls), (3, .int be), (5, .int ((nI k - 9))), (2, .int bi), (0, .ref 112), (1, .int (nI b0))]) [0, 2, 3, 1, 4, 5, 6] rfl ?_
      refine ez_eq (l2 := [(6, .int (nI 0)), (4, .int ls), (3, .int be), (5, .int ((nI k - 9))), (2, .int bi), (0, .ref 112), (1, .int (nI b0))]) (σ2 := (n, sl, kd, I4, L5, Rf)) rfl rfl rfl rfl ?_
      refine ez_for 10 (fun j (a : Int32 × Int32) => ([(6, .int (nI j)), (4, .int a.2), (3, .int a.1), (5, .int ((nI k - 9))), (2, .int bi), (0, .ref 112), (1, .int (nI b0))], (n, sl, kd, I4, L5, Rf))) (fun j a => (a.1, a.2) = a_lks bi (zsd T b0) k (be, ls) j) ?_ ?_ 10 0 (be, ls) (by omega) rfl
      · rintro j ⟨be2, ls2⟩ hk2 hac2 ih2
        have hac2 : (be2, ls2) = a_lks bi (zsd T b0) k (be, ls) j := hac2
        show ez_P _ _ _ _ _ _ 53 [(6, .int (nI j)), (4, .int ls2), (3, .int be2), (5, .int ((nI k - 9))), (2, .int bi), (0, .ref 112), (1, .int (nI b0))] [] (n, sl, kd, I4, L5, Rf) _
        refine ez_iload (i := 6) dX11_looks_53 rfl ?_
        refine ez_bipush (v := 9) dX11_looks_55 (by decide) ?_
        refine ez_icmp_gt (tgt := 190) dX11_looks_57 (by decide) (fun c12 => absurd c12 (Int32.not_lt.mpr (nI_le (b := 9) (by omega) (by decide)))) (fun c12 => ?_)
        refine ez_iconst (v := 0) dX11_looks_60 (by decide) ?_
        refine ez_istore (l' := [(7, .int 0), (6, .int (nI j)), (4, .int ls2), (3, .int be2), (5, .int ((nI k - 9))), (2, .int bi), (0, .ref 112), (1, .int (nI b0))]) dX11_looks_61 (by decide) rfl ?_
        refine ez_iconst (v := 0) dX11_looks_63 (by decide) ?_
        refine ez_istore (l' := [(8, .int 0), (7, .int 0), (6, .int (nI j)), (4, .int ls2), (3, .int be2), (5, .int ((nI k - 9))), (2, .int bi), (0, .ref 112), (1, .int (nI b0))]) dX11_looks_64 (by decide) rfl ?_
        refine ez_eq (l2 := [(8, .int (nI 0)), (7, .int 0), (6, .int (nI j)), (4, .int ls2), (3, .int be2), (5, .int ((nI k - 9))), (2, .int bi), (0, .ref 112), (1, .int (nI b0))]) (σ2 := (n, sl, kd, I4, L5, Rf)) rfl rfl rfl rfl ?_
        refine ez_for 6 (fun i (a : Int32) => ([(8, .int (nI i)), (7, .int a), (6, .int (nI j)), (4, .int ls2), (3, .int be2), (5, .int ((nI k - 9))), (2, .int bi), (0, .ref 112), (1, .int (nI b0))], (n, sl, kd, I4, L5, Rf))) (fun i a => a = a_lkm bi (zsd T b0) (nI k - 9) (nI j) i) ?_ ?_ 6 0 (0) (by omega) rfl
        · rintro i mo hk3 hac3 ih3
          have hac3 : mo = a_lkm bi (zsd T b0) (nI k - 9) (nI j) i := hac3
          show ez_P _ _ _ _ _ _ 66 [(8, .int (nI i)), (7, .int mo), (6, .int (nI j)), (4, .int ls2), (3, .int be2), (5, .int ((nI k - 9))), (2, .int bi), (0, .ref 112), (1, .int (nI b0))] [] (n, sl, kd, I4, L5, Rf) _
          refine ez_iload (i := 8) dX11_looks_66 rfl ?_
          refine ez_bipush (v := 6) dX11_looks_68 (by decide) ?_
          refine ez_icmp_ge (tgt := 158) dX11_looks_70 (by decide) (fun c13 => absurd c13 (nI_ge (b := 6) hk3 (by decide))) (fun c13 => ?_)
          refine ez_iconst (v := 0) dX11_looks_73 (by decide) ?_
          refine ez_istore (l' := [(9, .int 0), (8, .int (nI i)), (7, .int mo), (6, .int (nI j)), (4, .int ls2), (3, .int be2), (5, .int ((nI k - 9))), (2, .int bi), (0, .ref 112), (1, .int (nI b0))]) dX11_looks_74 (by decide) rfl ?_
          refine ez_iconst (v := 0) dX11_looks_76 (by decide) ?_
          refine ez_istore (l' := [(10, .int 0), (9, .int 0), (8, .int (nI i)), (7, .int mo), (6, .int (nI j)), (4, .int ls2), (3, .int be2), (5, .int ((nI k - 9))), (2, .int bi), (0, .ref 112), (1, .int (nI b0))]) dX11_looks_77 (by decide) rfl ?_
          refine ez_eq (l2 := [(10, .int (nI 0)), (9, .int 0), (8, .int (nI i)), (7, .int mo), (6, .int (nI j)), (4, .int ls2), (3, .int be2), (5, .int ((nI k - 9))), (2, .int bi), (0, .ref 112), (1, .int (nI b0))]) (σ2 := (n, sl, kd, I4, L5, Rf)) rfl rfl rfl rfl ?_
          refine ez_for 6 (fun m (a : Int32) => ([(10, .int (nI m)), (9, .int a), (8, .int (nI i)), (7, .int mo), (6, .int (nI j)), (4, .int ls2), (3, .int be2), (5, .int ((nI k - 9))), (2, .int bi), (0, .ref 112), (1, .int (nI b0))], (n, sl, kd, I4, L5, Rf))) (fun m a => a = a_lkn bi (zsd T b0) (nI k - 9) (nI j) i m) ?_ ?_ 6 0 (0) (by omega) rfl
          · rintro m nn hk4 hac4 ih4
            have hac4 : nn = a_lkn bi (zsd T b0) (nI k - 9) (nI j) i m := hac4
            show ez_P _ _ _ _ _ _ 79 [(10, .int (nI m)), (9, .int nn), (8, .int (nI i)), (7, .int mo), (6, .int (nI j)), (4, .int ls2), (3, .int be2), (5, .int ((nI k - 9))), (2, .int bi), (0, .ref 112), (1, .int (nI b0))] [] (n, sl, kd, I4, L5, Rf) _
            refine ez_iload (i := 10) dX11_looks_79 rfl ?_
            refine ez_bipush (v := 6) dX11_looks_81 (by decide) ?_
            refine ez_icmp_ge (tgt := 143) dX11_looks_83 (by decide) (fun c14 => absurd c14 (nI_ge (b := 6) hk4 (by decide))) (fun c14 => ?_)
            refine ez_iload (i := 9) dX11_looks_86 rfl ?_
            refine ez_iload_n (i := 2) dX11_looks_88 rfl rfl ?_
            refine ez_iload (i := 8) dX11_looks_89 rfl ?_
            refine ez_callS (M1 := mX11_has) (rest := [.int nn]) dX11_looks_91 mlX11_306 msX11_has rfl (Nat.le_of_ble_eq_true rfl) rfl (zq_b (q_X11_has (d + 399) bi (nI i)) (n, sl, kd, I4, L5, Rf)) eb_bok ?_
            rintro _ _ ⟨rfl, ⟨b15, rfl⟩ | ⟨b15, rfl⟩⟩
            · show ez_P _ _ _ _ _ _ 94 [(10, .int (nI m)), (9, .int nn), (8, .int (nI i)), (7, .int mo), (6, .int (nI j)), (4, .int ls2), (3, .int be2), (5, .int ((nI k - 9))), (2, .int bi), (0, .ref 112), (1, .int (nI b0))] (.int 1 :: [.int nn]) _ _
              refine ez_if_eq (tgt := 133) dX11_looks_94 (by decide) (fun c16 => absurd c16 (by decide)) (fun c16 => ?_)
              refine ez_iload_n (i := 2) dX11_looks_97 rfl rfl ?_
              refine ez_iload (i := 10) dX11_looks_98 rfl ?_
              refine ez_callS (M1 := mX11_has) (rest := [.int nn]) dX11_looks_100 mlX11_306 msX11_has rfl (Nat.le_of_ble_eq_true rfl) rfl (zq_b (q_X11_has (d + 399) bi (nI m)) (n, sl, kd, I4, L5, Rf)) eb_bok ?_
              rintro _ _ ⟨rfl, ⟨b17, rfl⟩ | ⟨b17, rfl⟩⟩
              · show ez_P _ _ _ _ _ _ 103 [(10, .int (nI m)), (9, .int nn), (8, .int (nI i)), (7, .int mo), (6, .int (nI j)), (4, .int ls2), (3, .int be2), (5, .int ((nI k - 9))), (2, .int bi), (0, .ref 112), (1, .int (nI b0))] (.int 1 :: [.int nn]) _ _
                refine ez_if_eq (tgt := 133) dX11_looks_103 (by decide) (fun c18 => absurd c18 (by decide)) (fun c18 => ?_)
                refine ez_aload_n (i := 0) dX11_looks_106 rfl rfl ?_
                refine ez_iload (i := 10) dX11_looks_107 rfl ?_
                refine ez_iload (i := 5) dX11_looks_109 rfl ?_
                refine ez_iload (i := 6) dX11_looks_111 rfl ?_
                refine ez_callV (M1 := mX11_pullSeen) (rest := [.int nn]) dX11_looks_113 mlX11_333 mvX11_pullSeen rfl (hF.lt (by decide)) (hF.kc (by decide) rfl) (Nat.le_of_ble_eq_true rfl) rfl (y_X11_pullSeen (I := I4) (L := L5) (d + 49) hQ9 hO hH hy (t0 := m) (by omega) (nI k - 9) (nI j)) eb_rok ?_
                rintro _ _ ⟨rfl, rfl⟩
                show ez_P _ _ _ _ _ _ 116 [(10, .int (nI m)), (9, .int nn), (8, .int (nI i)), (7, .int mo), (6, .int (nI j)), (4, .int ls2), (3, .int be2), (5, .int ((nI k - 9))), (2, .int bi), (0, .ref 112), (1, .int (nI b0))] (.int (z_pull (zsd T b0 m) (nI k - 9) (nI j)) :: [.int nn]) _ _
                refine ez_aload_n (i := 0) dX11_looks_116 rfl rfl ?_
                refine ez_iload (i := 8) dX11_looks_117 rfl ?_
                refine ez_iload (i := 5) dX11_looks_119 rfl ?_
                refine ez_iload (i := 6) dX11_looks_121 rfl ?_
                refine ez_callV (M1 := mX11_pullSeen) (rest := [.int (z_pull (zsd T b0 m) (nI k - 9) (nI j)), .int nn]) dX11_looks_123 mlX11_333 mvX11_pullSeen rfl (hF.lt (by decide)) (hF.kc (by decide) rfl) (Nat.le_of_ble_eq_true rfl) rfl (y_X11_pullSeen (I := I4) (L := L5) (d + 49) hQ9 hO hH hy (t0 := i) (by omega) (nI k - 9) (nI j)) eb_rok ?_
                rintro _ _ ⟨rfl, rfl⟩
                show ez_P _ _ _ _ _ _ 126 [(10, .int (nI m)), (9, .int nn), (8, .int (nI i)), (7, .int mo), (6, .int (nI j)), (4, .int ls2), (3, .int be2), (5, .int ((nI k - 9))), (2, .int bi), (0, .ref 112), (1, .int (nI b0))] (.int (z_pull (zsd T b0 i) (nI k - 9) (nI j)) :: [.int (z_pull (zsd T b0 m) (nI k - 9) (nI j)), .int nn]) _ _
                refine ez_icmp_ne (tgt := 133) dX11_looks_126 (by decide) (fun c19 => ?_) (fun c19 => ?_)
                · skip
                  refine ez_iconst (v := 0) dX11_looks_133 (by decide) ?_
                  refine ez_iadd dX11_looks_134 ?_
                  refine ez_istore (l' := [(9, .int (nn + 0)), (10, .int (nI m)), (8, .int (nI i)), (7, .int mo), (6, .int (nI j)), (4, .int ls2), (3, .int be2), (5, .int ((nI k - 9))), (2, .int bi), (0, .ref 112), (1, .int (nI b0))]) dX11_looks_135 (by decide) rfl ?_
                  refine ez_iinc (v := (nI (m + 1))) (l' := [(10, .int ((nI (m + 1)))), (9, .int (nn + 0)), (8, .int (nI i)), (7, .int mo), (6, .int (nI j)), (4, .int ls2), (3, .int be2), (5, .int ((nI k - 9))), (2, .int bi), (0, .ref 112), (1, .int (nI b0))]) dX11_looks_137 rfl (nI_1 _) (by decide) rfl ?_
                  refine ez_goto (tgt := 79) dX11_looks_140 (by decide) ?_
                  exact ez_eq (l2 := [(10, .int (nI (m + 1))), (9, .int (nn + 0)), (8, .int (nI i)), (7, .int mo), (6, .int (nI j)), (4, .int ls2), (3, .int be2), (5, .int ((nI k - 9))), (2, .int bi), (0, .ref 112), (1, .int (nI b0))]) rfl rfl rfl rfl (ih4 (nn + 0) (by rw [a_lkn, ← hac4, b_lkn]; simp only [if_pos b15, if_pos b17, if_neg c19]))
                · skip
                  refine ez_iconst (v := 1) dX11_looks_129 (by decide) ?_
                  refine ez_goto (tgt := 134) dX11_looks_130 (by decide) ?_
                  refine ez_iadd dX11_looks_134 ?_
                  refine ez_istore (l' := [(9, .int (nn + 1)), (10, .int (nI m)), (8, .int (nI i)), (7, .int mo), (6, .int (nI j)), (4, .int ls2), (3, .int be2), (5, .int ((nI k - 9))), (2, .int bi), (0, .ref 112), (1, .int (nI b0))]) dX11_looks_135 (by decide) rfl ?_
                  refine ez_iinc (v := (nI (m + 1))) (l' := [(10, .int ((nI (m + 1)))), (9, .int (nn + 1)), (8, .int (nI i)), (7, .int mo), (6, .int (nI j)), (4, .int ls2), (3, .int be2), (5, .int ((nI k - 9))), (2, .int bi), (0, .ref 112), (1, .int (nI b0))]) dX11_looks_137 rfl (nI_1 _) (by decide) rfl ?_
                  refine ez_goto (tgt := 79) dX11_looks_140 (by decide) ?_
                  exact ez_eq (l2 := [(10, .int (nI (m + 1))), (9, .int (nn + 1)), (8, .int (nI i)), (7, .int mo), (6, .int (nI j)), (4, .int ls2), (3, .int be2), (5, .int ((nI k - 9))), (2, .int bi), (0, .ref 112), (1, .int (nI b0))]) rfl rfl rfl rfl (ih4 (nn + 1) (by rw [a_lkn, ← hac4, b_lkn]; simp only [if_pos b15, if_pos b17, if_pos (Classical.not_not.mp c19)]))
              · show ez_P _ _ _ _ _ _ 103 [(10, .int (nI m)), (9, .int nn), (8, .int (nI i)), (7, .int mo), (6, .int (nI j)), (4, .int ls2), (3, .int be2), (5, .int ((nI k - 9))), (2, .int bi), (0, .ref 112), (1, .int (nI b0))] (.int 0 :: [.int nn]) _ _
                refine ez_if_eq (tgt := 133) dX11_looks_103 (by decide) (fun c20 => ?_) (fun c20 => absurd (by decide) c20)
                refine ez_iconst (v := 0) dX11_looks_133 (by decide) ?_
                refine ez_iadd dX11_looks_134 ?_
                refine ez_istore (l' := [(9, .int (nn + 0)), (10, .int (nI m)), (8, .int (nI i)), (7, .int mo), (6, .int (nI j)), (4, .int ls2), (3, .int be2), (5, .int ((nI k - 9))), (2, .int bi), (0, .ref 112), (1, .int (nI b0))]) dX11_looks_135 (by decide) rfl ?_
                refine ez_iinc (v := (nI (m + 1))) (l' := [(10, .int ((nI (m + 1)))), (9, .int (nn + 0)), (8, .int (nI i)), (7, .int mo), (6, .int (nI j)), (4, .int ls2), (3, .int be2), (5, .int ((nI k - 9))), (2, .int bi), (0, .ref 112), (1, .int (nI b0))]) dX11_looks_137 rfl (nI_1 _) (by decide) rfl ?_
                refine ez_goto (tgt := 79) dX11_looks_140 (by decide) ?_
                exact ez_eq (l2 := [(10, .int (nI (m + 1))), (9, .int (nn + 0)), (8, .int (nI i)), (7, .int mo), (6, .int (nI j)), (4, .int ls2), (3, .int be2), (5, .int ((nI k - 9))), (2, .int bi), (0, .ref 112), (1, .int (nI b0))]) rfl rfl rfl rfl (ih4 (nn + 0) (by rw [a_lkn, ← hac4, b_lkn]; simp only [if_pos b15, if_neg b17]))
            · show ez_P _ _ _ _ _ _ 94 [(10, .int (nI m)), (9, .int nn), (8, .int (nI i)), (7, .int mo), (6, .int (nI j)), (4, .int ls2), (3, .int be2), (5, .int ((nI k - 9))), (2, .int bi), (0, .ref 112), (1, .int (nI b0))] (.int 0 :: [.int nn]) _ _
              refine ez_if_eq (tgt := 133) dX11_looks_94 (by decide) (fun c21 => ?_) (fun c21 => absurd (by decide) c21)
              refine ez_iconst (v := 0) dX11_looks_133 (by decide) ?_
              refine ez_iadd dX11_looks_134 ?_
              refine ez_istore (l' := [(9, .int (nn + 0)), (10, .int (nI m)), (8, .int (nI i)), (7, .int mo), (6, .int (nI j)), (4, .int ls2), (3, .int be2), (5, .int ((nI k - 9))), (2, .int bi), (0, .ref 112), (1, .int (nI b0))]) dX11_looks_135 (by decide) rfl ?_
              refine ez_iinc (v := (nI (m + 1))) (l' := [(10, .int ((nI (m + 1)))), (9, .int (nn + 0)), (8, .int (nI i)), (7, .int mo), (6, .int (nI j)), (4, .int ls2), (3, .int be2), (5, .int ((nI k - 9))), (2, .int bi), (0, .ref 112), (1, .int (nI b0))]) dX11_looks_137 rfl (nI_1 _) (by decide) rfl ?_
              refine ez_goto (tgt := 79) dX11_looks_140 (by decide) ?_
              exact ez_eq (l2 := [(10, .int (nI (m + 1))), (9, .int (nn + 0)), (8, .int (nI i)), (7, .int mo), (6, .int (nI j)), (4, .int ls2), (3, .int be2), (5, .int ((nI k - 9))), (2, .int bi), (0, .ref 112), (1, .int (nI b0))]) rfl rfl rfl rfl (ih4 (nn + 0) (by rw [a_lkn, ← hac4, b_lkn]; simp only [if_neg b15]))
          · rintro nn hac4
            have hac4 : nn = a_lkn bi (zsd T b0) (nI k - 9) (nI j) i 6 := hac4
            show ez_P _ _ _ _ _ _ 79 [(10, .int (nI 6)), (9, .int nn), (8, .int (nI i)), (7, .int mo), (6, .int (nI j)), (4, .int ls2), (3, .int be2), (5, .int ((nI k - 9))), (2, .int bi), (0, .ref 112), (1, .int (nI b0))] [] (n, sl, kd, I4, L5, Rf) _
            refine ez_iload (i := 10) dX11_looks_79 rfl ?_
            refine ez_bipush (v := 6) dX11_looks_81 (by decide) ?_
            refine ez_icmp_ge (tgt := 143) dX11_looks_83 (by decide) (fun c22 => ?_) (fun c22 => absurd (by decide) c22)
            refine ez_iload (i := 7) dX11_looks_143 rfl ?_
            refine ez_iload (i := 9) dX11_looks_145 rfl ?_
            refine ez_max dX11_looks_147 xmX11_201 (Nat.le_of_ble_eq_true rfl) ?_
            refine ez_istore (l' := [(7, .int (if mo < nn then nn else mo)), (10, .int (nI 6)), (9, .int nn), (8, .int (nI i)), (6, .int (nI j)), (4, .int ls2), (3, .int be2), (5, .int ((nI k - 9))), (2, .int bi), (0, .ref 112), (1, .int (nI b0))]) dX11_looks_150 (by decide) rfl ?_
            refine ez_iinc (v := (nI (i + 1))) (l' := [(8, .int ((nI (i + 1)))), (7, .int (if mo < nn then nn else mo)), (10, .int (nI 6)), (9, .int nn), (6, .int (nI j)), (4, .int ls2), (3, .int be2), (5, .int ((nI k - 9))), (2, .int bi), (0, .ref 112), (1, .int (nI b0))]) dX11_looks_152 rfl (nI_1 _) (by decide) rfl ?_
            refine ez_goto (tgt := 66) dX11_looks_155 (by decide) ?_
            refine ez_sub (l' := [(8, .int ((nI (i + 1)))), (7, .int (if mo < nn then nn else mo)), (6, .int (nI j)), (4, .int ls2), (3, .int be2), (5, .int ((nI k - 9))), (2, .int bi), (0, .ref 112), (1, .int (nI b0))]) [0, 1, 4, 5, 6, 7, 8, 9, 10] rfl ?_
            exact ez_eq (l2 := [(8, .int (nI (i + 1))), (7, .int (if mo < nn then nn else mo)), (6, .int (nI j)), (4, .int ls2), (3, .int be2), (5, .int ((nI k - 9))), (2, .int bi), (0, .ref 112), (1, .int (nI b0))]) rfl rfl rfl rfl (ih3 (if mo < nn then nn else mo) (by rw [a_lkm, ← hac3, b_lkm, ← hac4]))
        · rintro mo hac3
          have hac3 : mo = a_lkm bi (zsd T b0) (nI k - 9) (nI j) 6 := hac3
          show ez_P _ _ _ _ _ _ 66 [(8, .int (nI 6)), (7, .int mo), (6, .int (nI j)), (4, .int ls2), (3, .int be2), (5, .int ((nI k - 9))), (2, .int bi), (0, .ref 112), (1, .int (nI b0))] [] (n, sl, kd, I4, L5, Rf) _
          refine ez_iload (i := 8) dX11_looks_66 rfl ?_
          refine ez_bipush (v := 6) dX11_looks_68 (by decide) ?_
          refine ez_icmp_ge (tgt := 158) dX11_looks_70 (by decide) (fun c23 => ?_) (fun c23 => absurd (by decide) c23)
          refine ez_iload (i := 7) dX11_looks_158 rfl ?_
          refine ez_iload (i := 4) dX11_looks_160 rfl ?_
          refine ez_icmp_lt (tgt := 168) dX11_looks_162 (by decide) (fun c24 => ?_) (fun c24 => ?_)
          · skip
            refine ez_bipush (v := 10) dX11_looks_168 (by decide) ?_
            refine ez_bipush (v := 9) dX11_looks_170 (by decide) ?_
            refine ez_iload (i := 5) dX11_looks_172 rfl ?_
            refine ez_iadd dX11_looks_174 ?_
            refine ez_topE (y := nI k) (z_99 k) ?_
            refine ez_imul dX11_looks_175 ?_
            refine ez_topE (y := nI (10 * k)) (nI_mul _ _) ?_
            refine ez_iload (i := 6) dX11_looks_176 rfl ?_
            refine ez_iadd dX11_looks_178 ?_
            refine ez_topE (y := nI ((10 * k) + j)) (nI_add _ _) ?_
            refine ez_istore_n (l' := [(3, .int (nI ((10 * k) + j))), (8, .int (nI 6)), (7, .int mo), (6, .int (nI j)), (4, .int ls2), (5, .int ((nI k - 9))), (2, .int bi), (0, .ref 112), (1, .int (nI b0))]) dX11_looks_179 rfl (by decide) rfl ?_
            refine ez_iload (i := 7) dX11_looks_180 rfl ?_
            refine ez_istore (l' := [(4, .int mo), (3, .int (nI ((10 * k) + j))), (8, .int (nI 6)), (7, .int mo), (6, .int (nI j)), (5, .int ((nI k - 9))), (2, .int bi), (0, .ref 112), (1, .int (nI b0))]) dX11_looks_182 (by decide) rfl ?_
            refine ez_iinc (v := (nI (j + 1))) (l' := [(6, .int ((nI (j + 1)))), (4, .int mo), (3, .int (nI ((10 * k) + j))), (8, .int (nI 6)), (7, .int mo), (5, .int ((nI k - 9))), (2, .int bi), (0, .ref 112), (1, .int (nI b0))]) dX11_looks_184 rfl (nI_1 _) (by decide) rfl ?_
            refine ez_goto (tgt := 53) dX11_looks_187 (by decide) ?_
            refine ez_sub (l' := [(6, .int ((nI (j + 1)))), (4, .int mo), (3, .int (nI ((10 * k) + j))), (5, .int ((nI k - 9))), (2, .int bi), (0, .ref 112), (1, .int (nI b0))]) [0, 1, 2, 5, 6, 7, 8] rfl ?_
            exact ez_eq (l2 := [(6, .int (nI (j + 1))), (4, .int mo), (3, .int (nI ((10 * k) + j))), (5, .int ((nI k - 9))), (2, .int bi), (0, .ref 112), (1, .int (nI b0))]) rfl rfl rfl rfl (ih2 (nI ((10 * k) + j), mo) (by rw [a_lks, ← hac2, b_lks, ← hac3]; simp only [if_pos c24]))
          · skip
            refine ez_goto (tgt := 184) dX11_looks_165 (by decide) ?_
            refine ez_iinc (v := (nI (j + 1))) (l' := [(6, .int ((nI (j + 1)))), (8, .int (nI 6)), (7, .int mo), (4, .int ls2), (3, .int be2), (5, .int ((nI k - 9))), (2, .int bi), (0, .ref 112), (1, .int (nI b0))]) dX11_looks_184 rfl (nI_1 _) (by decide) rfl ?_
            refine ez_goto (tgt := 53) dX11_looks_187 (by decide) ?_
            refine ez_sub (l' := [(6, .int ((nI (j + 1)))), (4, .int ls2), (3, .int be2), (5, .int ((nI k - 9))), (2, .int bi), (0, .ref 112), (1, .int (nI b0))]) [0, 3, 4, 5, 6, 7, 8] rfl ?_
            exact ez_eq (l2 := [(6, .int (nI (j + 1))), (4, .int ls2), (3, .int be2), (5, .int ((nI k - 9))), (2, .int bi), (0, .ref 112), (1, .int (nI b0))]) rfl rfl rfl rfl (ih2 (be2, ls2) (by rw [a_lks, ← hac2, b_lks, ← hac3]; simp only [if_neg c24]))
      · rintro ⟨be2, ls2⟩ hac2
        have hac2 : (be2, ls2) = a_lks bi (zsd T b0) k (be, ls) 10 := hac2
        show ez_P _ _ _ _ _ _ 53 [(6, .int (nI 10)), (4, .int ls2), (3, .int be2), (5, .int ((nI k - 9))), (2, .int bi), (0, .ref 112), (1, .int (nI b0))] [] (n, sl, kd, I4, L5, Rf) _
        refine ez_iload (i := 6) dX11_looks_53 rfl ?_
        refine ez_bipush (v := 9) dX11_looks_55 (by decide) ?_
        refine ez_icmp_gt (tgt := 190) dX11_looks_57 (by decide) (fun c25 => ?_) (fun c25 => absurd (by decide) c25)
        refine ez_iinc (v := (nI (k + 1) - 9)) (l' := [(5, .int ((nI (k + 1) - 9))), (6, .int (nI 10)), (4, .int ls2), (3, .int be2), (2, .int bi), (0, .ref 112), (1, .int (nI b0))]) dX11_looks_190 rfl (z_mc _ _) (by decide) rfl ?_
        refine ez_goto (tgt := 43) dX11_looks_193 (by decide) ?_
        refine ez_sub (l' := [(5, .int ((nI (k + 1) - 9))), (4, .int ls2), (3, .int be2), (2, .int bi), (0, .ref 112), (1, .int (nI b0))]) [0, 2, 3, 4, 5, 6] rfl ?_
        exact ez_eq (l2 := [(5, .int ((nI (k + 1) - 9))), (4, .int ls2), (3, .int be2), (2, .int bi), (0, .ref 112), (1, .int (nI b0))]) rfl rfl rfl rfl (ih (be2, ls2) (by rw [a_lkw, ← hac, b_lkw]; exact hac2))
    · rintro ⟨be, ls⟩ hac
      have hac : (be, ls) = a_lkw bi (zsd T b0) 19 := hac
      show ez_P _ _ _ _ _ _ 43 [(5, .int ((nI 19 - 9))), (4, .int ls), (3, .int be), (2, .int bi), (0, .ref 112), (1, .int (nI b0))] [] (n, sl, kd, I4, L5, Rf) _
      refine ez_iload (i := 5) dX11_looks_43 rfl ?_
      refine ez_bipush (v := 9) dX11_looks_45 (by decide) ?_
      refine ez_icmp_gt (tgt := 196) dX11_looks_47 (by decide) (fun c26 => ?_) (fun c26 => absurd (by decide) c26)
      refine ez_aload_n (i := 0) dX11_looks_196 rfl rfl ?_
      refine ez_iconst (v := 0) dX11_looks_197 (by decide) ?_
      refine ez_pI dX11_looks_198 plX11_92 (hF.lt (by decide)) (hF.lx (by decide)) (hF.kc (by decide) rfl) rfl rfl ?_
      refine ez_nmI (fun I27 hI27 => ?_)
      have hQ28 : zQ n kd I L Rf g8 I27 L5 (T.w_rw []) x6 o7 := by rw [hI27]; exact hQ9.row0
      refine ez_aload_n (i := 0) dX11_looks_201 rfl rfl ?_
      refine ez_iload (i := 4) dX11_looks_202 rfl ?_
      refine ez_i2l dX11_looks_204 rfl ?_
      refine ez_callV (M1 := mX11_tell) (rest := []) dX11_looks_205 mlX11_252 mvX11_tell rfl (hF.lt (by decide)) (hF.kc (by decide) rfl) (Nat.le_of_ble_eq_true rfl) rfl (y_X11_tell (I := I27) (L := L5) (d + 399) hF (k := 0) hQ28.M.rw.1 (by decide) ls.toInt64) (eb_vok rfl) ?_
      rintro _ _ ⟨rfl, rfl⟩
      refine ez_nmI (fun I29 hI29 => ?_)
      refine ez_nmL (fun L30 hL30 => ?_)
      show ez_P _ _ _ _ _ _ 208 [(5, .int ((nI 19 - 9))), (4, .int ls), (3, .int be), (2, .int bi), (0, .ref 112), (1, .int (nI b0))] [] (n, sl, kd, I29, L30, Rf) _
      have hQ31 : zQ n kd I L Rf g8 I29 L30 (T.w_rw [ls.toInt64]) x6 o7 := by rw [hI29, hL30]; exact hQ28.tell ls.toInt64
      refine ez_iload_n (i := 3) dX11_looks_208 rfl rfl ?_
      refine ez_iret dX11_looks_209 rfl rfl ?_
      rw [show s_looks T (nI b0) = (be, T.w_rw [ls.toInt64]) from by unfold s_looks; rw [if_pos ⟨(z_bin hb hO.c).1, (z_bin hb hO.c).2⟩, nI_clamp (by omega), hbi, if_neg hne, ← hac]]
      exact hQ31.end
  · skip
    refine ez_bipush (v := (-2)) dX11_looks_29 (by decide) ?_
    refine ez_iret dX11_looks_31 rfl rfl ?_
    rw [show s_looks T (nI b0) = (-2, T) from by unfold s_looks; rw [if_pos ⟨(z_bin hb hO.c).1, (z_bin hb hO.c).2⟩, nI_clamp (by omega), if_pos (Classical.not_not.mp c10)]]
    exact hQ9.end
theorem y_X11_looks_no {n : Nat} {sl : Nat × Nat} {kd : Nat → Nat × Nat} {I : Nat → Nat → Int32} {L : Nat → Nat → Int64} {Rf : Nat → Nat → Option Nat} (d : Nat) {T : zT} {H : Nat} (hM : zM n kd I L Rf T) (hO : zOk H T) (hH : H ≤ 1000000000) {v : Int32} (hn : ¬ (0 ≤ v ∧ v < nI T.c))  : zq mX11_looks (d + 400) [.ref 112, .int v] (n, sl, kd, I, L, Rf) (zpM n sl kd I L Rf (some (.int (s_looks T v).1)) (s_looks T v).2) := by
  have hF := hM.F; have hc7 := hO.c
  have hsp : s_looks T v = ((-1), T) := (by unfold s_looks; rw [if_neg hn])
  rw [hsp]
  intro f B
  refine ez_meth pn_X.2.2.2.2.2.2.2.2.2.2.2 (Nat.le_of_ble_eq_true rfl) ?_
  show ez_P _ _ _ _ _ _ 0 [(0, .ref 112), (1, .int v)] [] (n, sl, kd, I, L, Rf) _
  refine ez_aload_n (i := 0) dX11_looks_0 rfl rfl ?_
  refine ez_iconst (v := 0) dX11_looks_1 (by decide) ?_
  refine ez_pI dX11_looks_2 plX11_89 (hF.lt (by decide)) (hF.lx (by decide)) (hF.kc (by decide) rfl) rfl rfl ?_
  refine ez_nmI (fun I1 hI1 => ?_)
  have hQ2 : zQ n kd I L Rf I I1 L T (I 124) (I 112 25) := by rw [hI1]; exact zQ.start hM
  refine ez_aload_n (i := 0) dX11_looks_5 rfl rfl ?_
  refine ez_iload_n (i := 1) dX11_looks_6 rfl rfl ?_
  refine ez_callV (M1 := mX11_isOne) (rest := []) dX11_looks_7 mlX11_221 mvX11_isOne rfl (hF.lt (by decide)) (hF.kc (by decide) rfl) (Nat.le_of_ble_eq_true rfl) rfl (zq_b0 hn (y_X11_isOne (I := I1) (L := L) (d + 398) hF hQ2.M.c hO.c v)) eb_rok ?_
  rintro _ _ ⟨rfl, rfl⟩
  show ez_P _ _ _ _ _ _ 10 [(0, .ref 112), (1, .int v)] (.int 0 :: []) _ _
  refine ez_if_ne (tgt := 15) dX11_looks_10 (by decide) (fun c3 => absurd c3 (by decide)) (fun c3 => ?_)
  refine ez_iconst (v := (-1)) dX11_looks_13 (by decide) ?_
  refine ez_iret dX11_looks_14 rfl rfl ?_
  exact hQ2.end
theorem y_X11_looks {n : Nat} {sl : Nat × Nat} {kd : Nat → Nat × Nat} {I : Nat → Nat → Int32} {L : Nat → Nat → Int64} {Rf : Nat → Nat → Option Nat} (d : Nat) {T : zT} {H : Nat} (hM : zM n kd I L Rf T) (hO : zOk H T) (hH : H ≤ 1000000000) (v : Int32) : zq mX11_looks (d + 400) [.ref 112, .int v] (n, sl, kd, I, L, Rf) (zpM n sl kd I L Rf (some (.int (s_looks T v).1)) (s_looks T v).2) := by
  by_cases hn : 0 ≤ v ∧ v < nI T.c
  · obtain ⟨b0, hb, rfl⟩ := pk_of (by have := hO.c; omega) hn.1 hn.2
    exact y_X11_looks_ok d hM hO hH hb
  · exact y_X11_looks_no d hM hO hH hn
def zsoB (T : zT) (b : Nat) (w v : Int32) : Bool := if w = 0 then decide (¬ T.x b < v) else if w = 1 then decide (T.x (7 + b) = v) else if w = 2 then decide ((¬ T.x (14 + b) ≤ 0) ↔ v = 1) else if w = 3 then decide (z_ab (T.x (14 + b)) = v) else decide (¬ zwt T T.x b < v)
theorem y_X11_isSo_0 {n : Nat} {sl : Nat × Nat} {kd : Nat → Nat × Nat} {I : Nat → Nat → Int32} {L : Nat → Nat → Int64} {Rf : Nat → Nat → Option Nat} (d : Nat) {T : zT} {H : Nat} {I0 g : Nat → Nat → Int32} {L0 : Nat → Nat → Int64} {x : Nat → Int32} {o : Int32} (hQ : zQ n kd I0 L0 Rf g I L T x o) (hO : zOk H T) (hH : H ≤ 1000000000) {b : Nat} (hb : b < T.c) (v : Int32)  : zq mX11_isSo (d + 350) [.ref 112, .int (nI b), .int 0, .int v] (n, sl, kd, I, L, Rf) (eb_b (zsoB T b 0 v = true) (n, sl, kd, I, L, Rf)) := by
  have hF := hQ.M.F; have hc7 := hO.c
  intro f B
  refine ez_meth pn_X.2.2.2.2.2.2.2.2.2.2.2 (Nat.le_of_ble_eq_true rfl) ?_
  show ez_P _ _ _ _ _ _ 0 [(0, .ref 112), (1, .int (nI b)), (2, .int 0), (3, .int v)] [] (n, sl, kd, I, L, Rf) _
  refine ez_iload_n (i := 2) dX11_isSo_0 rfl rfl ?_
  refine ez_tin (off := 31) (tgt := 32) dX11_isSo_1 (by decide) (by decide) rfl (by decide) ?_
  refine ez_aload_n (i := 0) dX11_isSo_32 rfl rfl ?_
  refine ez_getR dX11_isSo_33 flX11_9 (hF.lt (by decide)) (hF.kc (by decide) rfl) (hF.pt 107 rfl) ?_
  refine ez_iload_n (i := 1) dX11_isSo_36 rfl rfl ?_
  refine ez_iaN (k := b) dX11_isSo_37 (hF.lt (by decide)) (hF.ka (by decide) rfl) (by omega) (by decide) ?_
  refine ez_topE (y := T.x b) (hQ.M.x _ (by omega)) ?_
  refine ez_iload_n (i := 3) dX11_isSo_38 rfl rfl ?_
  refine ez_icmp_lt (tgt := 46) dX11_isSo_39 (by decide) (fun c1 => ?_) (fun c1 => ?_)
  · skip
    refine ez_iconst (v := 0) dX11_isSo_46 (by decide) ?_
    refine ez_iret dX11_isSo_47 rfl (by decide) ?_
    exact ⟨rfl, Or.inr ⟨by show ¬ (zsoB T b 0 v = true); unfold zsoB; rw [if_pos rfl]; rw [decide_eq_true_eq]; exact fun g => g c1, rfl⟩⟩
  · skip
    refine ez_iconst (v := 1) dX11_isSo_42 (by decide) ?_
    refine ez_goto (tgt := 47) dX11_isSo_43 (by decide) ?_
    refine ez_iret dX11_isSo_47 rfl (by decide) ?_
    exact ⟨rfl, Or.inl ⟨by show (zsoB T b 0 v = true); unfold zsoB; rw [if_pos rfl]; rw [decide_eq_true_eq]; exact c1, rfl⟩⟩
theorem y_X11_isSo_1 {n : Nat} {sl : Nat × Nat} {kd : Nat → Nat × Nat} {I : Nat → Nat → Int32} {L : Nat → Nat → Int64} {Rf : Nat → Nat → Option Nat} (d : Nat) {T : zT} {H : Nat} {I0 g : Nat → Nat → Int32} {L0 : Nat → Nat → Int64} {x : Nat → Int32} {o : Int32} (hQ : zQ n kd I0 L0 Rf g I L T x o) (hO : zOk H T) (hH : H ≤ 1000000000) {b : Nat} (hb : b < T.c) (v : Int32)  : zq mX11_isSo (d + 350) [.ref 112, .int (nI b), .int 1, .int v] (n, sl, kd, I, L, Rf) (eb_b (zsoB T b 1 v = true) (n, sl, kd, I, L, Rf)) := by
  have hF := hQ.M.F; have hc7 := hO.c
  intro f B
  refine ez_meth pn_X.2.2.2.2.2.2.2.2.2.2.2 (Nat.le_of_ble_eq_true rfl) ?_
  show ez_P _ _ _ _ _ _ 0 [(0, .ref 112), (1, .int (nI b)), (2, .int 1), (3, .int v)] [] (n, sl, kd, I, L, Rf) _
  refine ez_iload_n (i := 2) dX11_isSo_0 rfl rfl ?_
  refine ez_tin (off := 47) (tgt := 48) dX11_isSo_1 (by decide) (by decide) rfl (by decide) ?_
  refine ez_aload_n (i := 0) dX11_isSo_48 rfl rfl ?_
  refine ez_getR dX11_isSo_49 flX11_9 (hF.lt (by decide)) (hF.kc (by decide) rfl) (hF.pt 107 rfl) ?_
  refine ez_bipush (v := 7) dX11_isSo_52 (by decide) ?_
  refine ez_iload_n (i := 1) dX11_isSo_54 rfl rfl ?_
  refine ez_iadd dX11_isSo_55 ?_
  refine ez_topE (y := nI (7 + b)) (nI_add _ _) ?_
  refine ez_iaN (k := (7 + b)) dX11_isSo_56 (hF.lt (by decide)) (hF.ka (by decide) rfl) (by omega) (by decide) ?_
  refine ez_topE (y := T.x (7 + b)) (hQ.M.x _ (by omega)) ?_
  refine ez_iload_n (i := 3) dX11_isSo_57 rfl rfl ?_
  refine ez_icmp_ne (tgt := 65) dX11_isSo_58 (by decide) (fun c1 => ?_) (fun c1 => ?_)
  · skip
    refine ez_iconst (v := 0) dX11_isSo_65 (by decide) ?_
    refine ez_iret dX11_isSo_66 rfl (by decide) ?_
    exact ⟨rfl, Or.inr ⟨by show ¬ (zsoB T b 1 v = true); unfold zsoB; rw [if_neg (by decide)]; rw [if_pos rfl]; rw [decide_eq_true_eq]; exact c1, rfl⟩⟩
  · skip
    refine ez_iconst (v := 1) dX11_isSo_61 (by decide) ?_
    refine ez_goto (tgt := 66) dX11_isSo_62 (by decide) ?_
    refine ez_iret dX11_isSo_66 rfl (by decide) ?_
    exact ⟨rfl, Or.inl ⟨by show (zsoB T b 1 v = true); unfold zsoB; rw [if_neg (by decide)]; rw [if_pos rfl]; rw [decide_eq_true_eq]; exact Classical.not_not.mp c1, rfl⟩⟩
theorem y_X11_isSo_2 {n : Nat} {sl : Nat × Nat} {kd : Nat → Nat × Nat} {I : Nat → Nat → Int32} {L : Nat → Nat → Int64} {Rf : Nat → Nat → Option Nat} (d : Nat) {T : zT} {H : Nat} {I0 g : Nat → Nat → Int32} {L0 : Nat → Nat → Int64} {x : Nat → Int32} {o : Int32} (hQ : zQ n kd I0 L0 Rf g I L T x o) (hO : zOk H T) (hH : H ≤ 1000000000) {b : Nat} (hb : b < T.c) (v : Int32)  : zq mX11_isSo (d + 350) [.ref 112, .int (nI b), .int 2, .int v] (n, sl, kd, I, L, Rf) (eb_b (zsoB T b 2 v = true) (n, sl, kd, I, L, Rf)) := by
  have hF := hQ.M.F; have hc7 := hO.c
  intro f B
  refine ez_meth pn_X.2.2.2.2.2.2.2.2.2.2.2 (Nat.le_of_ble_eq_true rfl) ?_
  show ez_P _ _ _ _ _ _ 0 [(0, .ref 112), (1, .int (nI b)), (2, .int 2), (3, .int v)] [] (n, sl, kd, I, L, Rf) _
  refine ez_iload_n (i := 2) dX11_isSo_0 rfl rfl ?_
  refine ez_tin (off := 66) (tgt := 67) dX11_isSo_1 (by decide) (by decide) rfl (by decide) ?_
  refine ez_aload_n (i := 0) dX11_isSo_67 rfl rfl ?_
  refine ez_getR dX11_isSo_68 flX11_9 (hF.lt (by decide)) (hF.kc (by decide) rfl) (hF.pt 107 rfl) ?_
  refine ez_bipush (v := 14) dX11_isSo_71 (by decide) ?_
  refine ez_iload_n (i := 1) dX11_isSo_73 rfl rfl ?_
  refine ez_iadd dX11_isSo_74 ?_
  refine ez_topE (y := nI (14 + b)) (nI_add _ _) ?_
  refine ez_iaN (k := (14 + b)) dX11_isSo_75 (hF.lt (by decide)) (hF.ka (by decide) rfl) (by omega) (by decide) ?_
  refine ez_topE (y := T.x (14 + b)) (hQ.M.x _ (by omega)) ?_
  refine ez_if_le (tgt := 83) dX11_isSo_76 (by decide) (fun c1 => ?_) (fun c1 => ?_)
  · skip
    refine ez_iconst (v := 0) dX11_isSo_83 (by decide) ?_
    refine ez_iload_n (i := 3) dX11_isSo_84 rfl rfl ?_
    refine ez_iconst (v := 1) dX11_isSo_85 (by decide) ?_
    refine ez_icmp_ne (tgt := 93) dX11_isSo_86 (by decide) (fun c2 => ?_) (fun c2 => ?_)
    · skip
      refine ez_iconst (v := 0) dX11_isSo_93 (by decide) ?_
      refine ez_icmp_ne (tgt := 101) dX11_isSo_94 (by decide) (fun c3 => absurd c3 (by decide)) (fun c3 => ?_)
      refine ez_iconst (v := 1) dX11_isSo_97 (by decide) ?_
      refine ez_goto (tgt := 102) dX11_isSo_98 (by decide) ?_
      refine ez_iret dX11_isSo_102 rfl (by decide) ?_
      exact ⟨rfl, Or.inl ⟨by show (zsoB T b 2 v = true); unfold zsoB; rw [if_neg (by decide)]; rw [if_neg (by decide)]; rw [if_pos rfl]; rw [decide_eq_true_eq]; first | exact iff_of_true (by assumption) (Classical.not_not.mp (by assumption)) | exact iff_of_false (fun g => g (by assumption)) (by assumption) | exact (fun g => absurd (g.mp (by assumption)) (by assumption)) | exact (fun g => absurd (g.mpr (Classical.not_not.mp (by assumption))) (fun k => k (by assumption))), rfl⟩⟩
    · skip
      refine ez_iconst (v := 1) dX11_isSo_89 (by decide) ?_
      refine ez_goto (tgt := 94) dX11_isSo_90 (by decide) ?_
      refine ez_icmp_ne (tgt := 101) dX11_isSo_94 (by decide) (fun c4 => ?_) (fun c4 => absurd (by decide) c4)
      refine ez_iconst (v := 0) dX11_isSo_101 (by decide) ?_
      refine ez_iret dX11_isSo_102 rfl (by decide) ?_
      exact ⟨rfl, Or.inr ⟨by show ¬ (zsoB T b 2 v = true); unfold zsoB; rw [if_neg (by decide)]; rw [if_neg (by decide)]; rw [if_pos rfl]; rw [decide_eq_true_eq]; first | exact iff_of_true (by assumption) (Classical.not_not.mp (by assumption)) | exact iff_of_false (fun g => g (by assumption)) (by assumption) | exact (fun g => absurd (g.mp (by assumption)) (by assumption)) | exact (fun g => absurd (g.mpr (Classical.not_not.mp (by assumption))) (fun k => k (by assumption))), rfl⟩⟩
  · skip
    refine ez_iconst (v := 1) dX11_isSo_79 (by decide) ?_
    refine ez_goto (tgt := 84) dX11_isSo_80 (by decide) ?_
    refine ez_iload_n (i := 3) dX11_isSo_84 rfl rfl ?_
    refine ez_iconst (v := 1) dX11_isSo_85 (by decide) ?_
    refine ez_icmp_ne (tgt := 93) dX11_isSo_86 (by decide) (fun c5 => ?_) (fun c5 => ?_)
    · skip
      refine ez_iconst (v := 0) dX11_isSo_93 (by decide) ?_
      refine ez_icmp_ne (tgt := 101) dX11_isSo_94 (by decide) (fun c6 => ?_) (fun c6 => absurd (by decide) c6)
      refine ez_iconst (v := 0) dX11_isSo_101 (by decide) ?_
      refine ez_iret dX11_isSo_102 rfl (by decide) ?_
      exact ⟨rfl, Or.inr ⟨by show ¬ (zsoB T b 2 v = true); unfold zsoB; rw [if_neg (by decide)]; rw [if_neg (by decide)]; rw [if_pos rfl]; rw [decide_eq_true_eq]; first | exact iff_of_true (by assumption) (Classical.not_not.mp (by assumption)) | exact iff_of_false (fun g => g (by assumption)) (by assumption) | exact (fun g => absurd (g.mp (by assumption)) (by assumption)) | exact (fun g => absurd (g.mpr (Classical.not_not.mp (by assumption))) (fun k => k (by assumption))), rfl⟩⟩
    · skip
      refine ez_iconst (v := 1) dX11_isSo_89 (by decide) ?_
      refine ez_goto (tgt := 94) dX11_isSo_90 (by decide) ?_
      refine ez_icmp_ne (tgt := 101) dX11_isSo_94 (by decide) (fun c7 => absurd c7 (by decide)) (fun c7 => ?_)
      refine ez_iconst (v := 1) dX11_isSo_97 (by decide) ?_
      refine ez_goto (tgt := 102) dX11_isSo_98 (by decide) ?_
      refine ez_iret dX11_isSo_102 rfl (by decide) ?_
      exact ⟨rfl, Or.inl ⟨by show (zsoB T b 2 v = true); unfold zsoB; rw [if_neg (by decide)]; rw [if_neg (by decide)]; rw [if_pos rfl]; rw [decide_eq_true_eq]; first | exact iff_of_true (by assumption) (Classical.not_not.mp (by assumption)) | exact iff_of_false (fun g => g (by assumption)) (by assumption) | exact (fun g => absurd (g.mp (by assumption)) (by assumption)) | exact (fun g => absurd (g.mpr (Classical.not_not.mp (by assumption))) (fun k => k (by assumption))), rfl⟩⟩
theorem y_X11_isSo_3 {n : Nat} {sl : Nat × Nat} {kd : Nat → Nat × Nat} {I : Nat → Nat → Int32} {L : Nat → Nat → Int64} {Rf : Nat → Nat → Option Nat} (d : Nat) {T : zT} {H : Nat} {I0 g : Nat → Nat → Int32} {L0 : Nat → Nat → Int64} {x : Nat → Int32} {o : Int32} (hQ : zQ n kd I0 L0 Rf g I L T x o) (hO : zOk H T) (hH : H ≤ 1000000000) {b : Nat} (hb : b < T.c) (v : Int32)  : zq mX11_isSo (d + 350) [.ref 112, .int (nI b), .int 3, .int v] (n, sl, kd, I, L, Rf) (eb_b (zsoB T b 3 v = true) (n, sl, kd, I, L, Rf)) := by
  have hF := hQ.M.F; have hc7 := hO.c
  intro f B
  refine ez_meth pn_X.2.2.2.2.2.2.2.2.2.2.2 (Nat.le_of_ble_eq_true rfl) ?_
  show ez_P _ _ _ _ _ _ 0 [(0, .ref 112), (1, .int (nI b)), (2, .int 3), (3, .int v)] [] (n, sl, kd, I, L, Rf) _
  refine ez_iload_n (i := 2) dX11_isSo_0 rfl rfl ?_
  refine ez_tin (off := 102) (tgt := 103) dX11_isSo_1 (by decide) (by decide) rfl (by decide) ?_
  refine ez_aload_n (i := 0) dX11_isSo_103 rfl rfl ?_
  refine ez_getR dX11_isSo_104 flX11_9 (hF.lt (by decide)) (hF.kc (by decide) rfl) (hF.pt 107 rfl) ?_
  refine ez_bipush (v := 14) dX11_isSo_107 (by decide) ?_
  refine ez_iload_n (i := 1) dX11_isSo_109 rfl rfl ?_
  refine ez_iadd dX11_isSo_110 ?_
  refine ez_topE (y := nI (14 + b)) (nI_add _ _) ?_
  refine ez_iaN (k := (14 + b)) dX11_isSo_111 (hF.lt (by decide)) (hF.ka (by decide) rfl) (by omega) (by decide) ?_
  refine ez_topE (y := T.x (14 + b)) (hQ.M.x _ (by omega)) ?_
  refine ez_abs dX11_isSo_112 xmX11_192 (Nat.le_of_ble_eq_true rfl) ?_
  refine ez_topE (y := z_ab (T.x (14 + b))) rfl ?_
  refine ez_iload_n (i := 3) dX11_isSo_115 rfl rfl ?_
  refine ez_icmp_ne (tgt := 123) dX11_isSo_116 (by decide) (fun c1 => ?_) (fun c1 => ?_)
  · skip
    refine ez_iconst (v := 0) dX11_isSo_123 (by decide) ?_
    refine ez_iret dX11_isSo_124 rfl (by decide) ?_
    exact ⟨rfl, Or.inr ⟨by show ¬ (zsoB T b 3 v = true); unfold zsoB; rw [if_neg (by decide)]; rw [if_neg (by decide)]; rw [if_neg (by decide)]; rw [if_pos rfl]; rw [decide_eq_true_eq]; exact c1, rfl⟩⟩
  · skip
    refine ez_iconst (v := 1) dX11_isSo_119 (by decide) ?_
    refine ez_goto (tgt := 124) dX11_isSo_120 (by decide) ?_
    refine ez_iret dX11_isSo_124 rfl (by decide) ?_
    exact ⟨rfl, Or.inl ⟨by show (zsoB T b 3 v = true); unfold zsoB; rw [if_neg (by decide)]; rw [if_neg (by decide)]; rw [if_neg (by decide)]; rw [if_pos rfl]; rw [decide_eq_true_eq]; exact Classical.not_not.mp c1, rfl⟩⟩
theorem y_X11_isSo_4 {n : Nat} {sl : Nat × Nat} {kd : Nat → Nat × Nat} {I : Nat → Nat → Int32} {L : Nat → Nat → Int64} {Rf : Nat → Nat → Option Nat} (d : Nat) {T : zT} {H : Nat} {I0 g : Nat → Nat → Int32} {L0 : Nat → Nat → Int64} {x : Nat → Int32} {o : Int32} (hQ : zQ n kd I0 L0 Rf g I L T x o) (hO : zOk H T) (hH : H ≤ 1000000000) {b : Nat} (hb : b < T.c) (v : Int32)  : zq mX11_isSo (d + 350) [.ref 112, .int (nI b), .int 4, .int v] (n, sl, kd, I, L, Rf) (eb_b (zsoB T b 4 v = true) (n, sl, kd, I, L, Rf)) := by
  have hF := hQ.M.F; have hc7 := hO.c
  intro f B
  refine ez_meth pn_X.2.2.2.2.2.2.2.2.2.2.2 (Nat.le_of_ble_eq_true rfl) ?_
  show ez_P _ _ _ _ _ _ 0 [(0, .ref 112), (1, .int (nI b)), (2, .int 4), (3, .int v)] [] (n, sl, kd, I, L, Rf) _
  refine ez_iload_n (i := 2) dX11_isSo_0 rfl rfl ?_
  refine ez_tout (tgt := 125) dX11_isSo_1 (by decide) (by decide) ?_
  refine ez_aload_n (i := 0) dX11_isSo_125 rfl rfl ?_
  refine ez_aload_n (i := 0) dX11_isSo_126 rfl rfl ?_
  refine ez_getR dX11_isSo_127 flX11_9 (hF.lt (by decide)) (hF.kc (by decide) rfl) (hF.pt 107 rfl) ?_
  refine ez_iload_n (i := 1) dX11_isSo_130 rfl rfl ?_
  refine ez_callV (M1 := mX11_weightOf) (rest := []) dX11_isSo_131 mlX11_204 mvX11_weightOf rfl (hF.lt (by decide)) (hF.kc (by decide) rfl) (Nat.le_of_ble_eq_true rfl) rfl (y_wt (I := I) (L := L) (d + 43) hQ.M.W hc7 (Or.inl rfl) hQ.M.x hO.x (by omega) (by omega)) eb_rok ?_
  rintro _ _ ⟨rfl, rfl⟩
  show ez_P _ _ _ _ _ _ 134 [(0, .ref 112), (1, .int (nI b)), (2, .int 4), (3, .int v)] (.int (zwt T T.x b) :: []) _ _
  refine ez_iload_n (i := 3) dX11_isSo_134 rfl rfl ?_
  refine ez_icmp_lt (tgt := 142) dX11_isSo_135 (by decide) (fun c1 => ?_) (fun c1 => ?_)
  · skip
    refine ez_iconst (v := 0) dX11_isSo_142 (by decide) ?_
    refine ez_iret dX11_isSo_143 rfl (by decide) ?_
    exact ⟨rfl, Or.inr ⟨by show ¬ (zsoB T b 4 v = true); unfold zsoB; rw [if_neg (by decide)]; rw [if_neg (by decide)]; rw [if_neg (by decide)]; rw [if_neg (by decide)]; rw [decide_eq_true_eq]; exact fun g => g c1, rfl⟩⟩
  · skip
    refine ez_iconst (v := 1) dX11_isSo_138 (by decide) ?_
    refine ez_goto (tgt := 143) dX11_isSo_139 (by decide) ?_
    refine ez_iret dX11_isSo_143 rfl (by decide) ?_
    exact ⟨rfl, Or.inl ⟨by show (zsoB T b 4 v = true); unfold zsoB; rw [if_neg (by decide)]; rw [if_neg (by decide)]; rw [if_neg (by decide)]; rw [if_neg (by decide)]; rw [decide_eq_true_eq]; exact c1, rfl⟩⟩
theorem y_X11_isSo {n : Nat} {sl : Nat × Nat} {kd : Nat → Nat × Nat} {I : Nat → Nat → Int32} {L : Nat → Nat → Int64} {Rf : Nat → Nat → Option Nat} (d : Nat) {T : zT} {H : Nat} {I0 g : Nat → Nat → Int32} {L0 : Nat → Nat → Int64} {x : Nat → Int32} {o : Int32} (hQ : zQ n kd I0 L0 Rf g I L T x o) (hO : zOk H T) (hH : H ≤ 1000000000) {b : Nat} (hb : b < T.c) {wh : Int32} (hw : 0 ≤ wh ∧ wh ≤ 4) (v : Int32) : zq mX11_isSo (d + 350) [.ref 112, .int (nI b), .int wh, .int v] (n, sl, kd, I, L, Rf) (eb_b (zsoB T b wh v = true) (n, sl, kd, I, L, Rf)) := by
  obtain ⟨q, _, hq, rfl⟩ := z_pk1 (lo := 0) (N := 4) hw (by decide) (by decide)
  rcases (show q = 0 ∨ q = 1 ∨ q = 2 ∨ q = 3 ∨ q = 4 by omega) with rfl | rfl | rfl | rfl | rfl
  · exact y_X11_isSo_0 d hQ hO hH hb v
  · exact y_X11_isSo_1 d hQ hO hH hb v
  · exact y_X11_isSo_2 d hQ hO hH hb v
  · exact y_X11_isSo_3 d hQ hO hH hb v
  · exact y_X11_isSo_4 d hQ hO hH hb v
def b_fis (T : zT) (b : Nat) (k : Nat) (a : Int32) : Int32 := if a = 0 then 0 else if zsoB T b (zhd T k).1 (zhd T k).2 = true then 1 else 0
def a_fis (T : zT) (b : Nat) : Nat → Int32
  | 0 => 1
  | k + 1 => b_fis T b k (a_fis T b k)
def b_fit (T : zT) (k : Nat) (a : Int32) : Int32 := a ||| (if a_fis T k T.hd.length = 0 then (0 : Int32) else 1 <<< (nI k &&& 31))
def a_fit (T : zT) : Nat → Int32
  | 0 => 0
  | k + 1 => b_fit T k (a_fit T k)
theorem zhd_r {T : zT} {H k : Nat} (hO : zOk H T) (hk : k < T.hd.length) : 0 ≤ (zhd T k).1 ∧ (zhd T k).1 ≤ 4 := (hO.hd _ (List.mem_of_getElem? (zhd_at hk))).1
theorem y_X11_fitting {n : Nat} {sl : Nat × Nat} {kd : Nat → Nat × Nat} {I : Nat → Nat → Int32} {L : Nat → Nat → Int64} {Rf : Nat → Nat → Option Nat} (d : Nat) {T : zT} {H : Nat} {I0 g : Nat → Nat → Int32} {L0 : Nat → Nat → Int64} {x : Nat → Int32} {o : Int32} (hQ : zQ n kd I0 L0 Rf g I L T x o) (hO : zOk H T) (hH : H ≤ 1000000000)  : zq mX11_fitting (d + 351) [.ref 112] (n, sl, kd, I, L, Rf) (eb_r (a_fit T T.c) (n, sl, kd, I, L, Rf)) := by
  have hF := hQ.M.F; have hc7 := hO.c
  intro f B
  refine ez_meth pn_X.2.2.2.2.2.2.2.2.2.2.2 (Nat.le_of_ble_eq_true rfl) ?_
  show ez_P _ _ _ _ _ _ 0 [(0, .ref 112)] [] (n, sl, kd, I, L, Rf) _
  refine ez_iconst (v := 0) dX11_fitting_0 (by decide) ?_
  refine ez_istore_n (l' := [(1, .int 0), (0, .ref 112)]) dX11_fitting_1 rfl (by decide) rfl ?_
  refine ez_iconst (v := 0) dX11_fitting_2 (by decide) ?_
  refine ez_istore_n (l' := [(2, .int 0), (1, .int 0), (0, .ref 112)]) dX11_fitting_3 rfl (by decide) rfl ?_
  refine ez_eq (l2 := [(2, .int (nI 0)), (1, .int 0), (0, .ref 112)]) (σ2 := (n, sl, kd, I, L, Rf)) rfl rfl rfl rfl ?_
  refine ez_for T.c (fun k (a : Int32) => ([(2, .int (nI k)), (1, .int a), (0, .ref 112)], (n, sl, kd, I, L, Rf))) (fun k a => a = a_fit T k) ?_ ?_ T.c 0 (0) (by omega) rfl
  · rintro k bi hk hac ih
    have hac : bi = a_fit T k := hac
    show ez_P _ _ _ _ _ _ 4 [(2, .int (nI k)), (1, .int bi), (0, .ref 112)] [] (n, sl, kd, I, L, Rf) _
    refine ez_iload_n (i := 2) dX11_fitting_4 rfl rfl ?_
    refine ez_aload_n (i := 0) dX11_fitting_5 rfl rfl ?_
    refine ez_getI dX11_fitting_6 flX11_95 (hF.lt (by decide)) (hF.kc (by decide) rfl) ?_
    refine ez_topE (y := nI T.c) hQ.M.c ?_
    refine ez_icmp_ge (tgt := 84) dX11_fitting_9 (by decide) (fun c1 => absurd c1 (nI_ge hk (by omega))) (fun c1 => ?_)
    refine ez_iconst (v := 1) dX11_fitting_12 (by decide) ?_
    refine ez_istore_n (l' := [(3, .int 1), (2, .int (nI k)), (1, .int bi), (0, .ref 112)]) dX11_fitting_13 rfl (by decide) rfl ?_
    refine ez_iconst (v := 0) dX11_fitting_14 (by decide) ?_
    refine ez_istore (l' := [(4, .int 0), (3, .int 1), (2, .int (nI k)), (1, .int bi), (0, .ref 112)]) dX11_fitting_15 (by decide) rfl ?_
    refine ez_eq (l2 := [(4, .int (nI 0)), (3, .int 1), (2, .int (nI k)), (1, .int bi), (0, .ref 112)]) (σ2 := (n, sl, kd, I, L, Rf)) rfl rfl rfl rfl ?_
    refine ez_for T.hd.length (fun j (a : Int32) => ([(4, .int (nI j)), (3, .int a), (2, .int (nI k)), (1, .int bi), (0, .ref 112)], (n, sl, kd, I, L, Rf))) (fun j a => a = a_fis T k j) ?_ ?_ T.hd.length 0 (1) (by omega) rfl
    · rintro j is hk2 hac2 ih2
      have hac2 : is = a_fis T k j := hac2
      show ez_P _ _ _ _ _ _ 17 [(4, .int (nI j)), (3, .int is), (2, .int (nI k)), (1, .int bi), (0, .ref 112)] [] (n, sl, kd, I, L, Rf) _
      refine ez_iload (i := 4) dX11_fitting_17 rfl ?_
      refine ez_aload_n (i := 0) dX11_fitting_19 rfl rfl ?_
      refine ez_getI dX11_fitting_20 flX11_346 (hF.lt (by decide)) (hF.kc (by decide) rfl) ?_
      refine ez_topE (y := nI T.hd.length) hQ.M.hd.1 ?_
      refine ez_icmp_ge (tgt := 64) dX11_fitting_23 (by decide) (fun c2 => absurd c2 (nI_ge hk2 (by have := hO.hdl; omega))) (fun c2 => ?_)
      refine ez_iload_n (i := 3) dX11_fitting_26 rfl rfl ?_
      refine ez_if_eq (tgt := 56) dX11_fitting_27 (by decide) (fun c3 => ?_) (fun c3 => ?_)
      · skip
        refine ez_iconst (v := 0) dX11_fitting_56 (by decide) ?_
        refine ez_istore_n (l' := [(3, .int 0), (4, .int (nI j)), (2, .int (nI k)), (1, .int bi), (0, .ref 112)]) dX11_fitting_57 rfl (by decide) rfl ?_
        refine ez_iinc (v := (nI (j + 1))) (l' := [(4, .int ((nI (j + 1)))), (3, .int 0), (2, .int (nI k)), (1, .int bi), (0, .ref 112)]) dX11_fitting_58 rfl (nI_1 _) (by decide) rfl ?_
        refine ez_goto (tgt := 17) dX11_fitting_61 (by decide) ?_
        exact ez_eq (l2 := [(4, .int (nI (j + 1))), (3, .int 0), (2, .int (nI k)), (1, .int bi), (0, .ref 112)]) rfl rfl rfl rfl (ih2 (0) (by rw [a_fis, ← hac2, b_fis]; simp only [if_pos c3]))
      · skip
        refine ez_aload_n (i := 0) dX11_fitting_30 rfl rfl ?_
        refine ez_iload_n (i := 2) dX11_fitting_31 rfl rfl ?_
        refine ez_aload_n (i := 0) dX11_fitting_32 rfl rfl ?_
        refine ez_getR dX11_fitting_33 flX11_67 (hF.lt (by decide)) (hF.kc (by decide) rfl) (hF.pt 123 rfl) ?_
        refine ez_iload (i := 4) dX11_fitting_36 rfl ?_
        refine ez_iaN (k := j) dX11_fitting_38 (hF.lt (by decide)) (hF.ka (by decide) rfl) (by have := hO.hdl; omega) (by decide) ?_
        refine ez_topE (y := (zhd T j).1) (hQ.M.hd.2 _ _ (zhd_at (by omega))).1 ?_
        refine ez_aload_n (i := 0) dX11_fitting_39 rfl rfl ?_
        refine ez_getR dX11_fitting_40 flX11_70 (hF.lt (by decide)) (hF.kc (by decide) rfl) (hF.pt 124 rfl) ?_
        refine ez_iload (i := 4) dX11_fitting_43 rfl ?_
        refine ez_iaN (k := j) dX11_fitting_45 (hF.lt (by decide)) (hF.ka (by decide) rfl) (by have := hO.hdl; omega) (by decide) ?_
        refine ez_topE (y := (zhd T j).2) (hQ.M.hd.2 _ _ (zhd_at (by omega))).2 ?_
        refine ez_callV (M1 := mX11_isSo) (rest := []) dX11_fitting_46 mlX11_349 mvX11_isSo rfl (hF.lt (by decide)) (hF.kc (by decide) rfl) (Nat.le_of_ble_eq_true rfl) rfl (y_X11_isSo (I := I) (L := L) (d + 0) hQ hO hH (b := k) hk (zhd_r hO hk2) ((zhd T j).2)) eb_bok ?_
        rintro _ _ ⟨rfl, ⟨b4, rfl⟩ | ⟨b4, rfl⟩⟩
        · show ez_P _ _ _ _ _ _ 49 [(4, .int (nI j)), (3, .int is), (2, .int (nI k)), (1, .int bi), (0, .ref 112)] (.int 1 :: []) _ _
          refine ez_if_eq (tgt := 56) dX11_fitting_49 (by decide) (fun c5 => absurd c5 (by decide)) (fun c5 => ?_)
          refine ez_iconst (v := 1) dX11_fitting_52 (by decide) ?_
          refine ez_goto (tgt := 57) dX11_fitting_53 (by decide) ?_
          refine ez_istore_n (l' := [(3, .int 1), (4, .int (nI j)), (2, .int (nI k)), (1, .int bi), (0, .ref 112)]) dX11_fitting_57 rfl (by decide) rfl ?_
          refine ez_iinc (v := (nI (j + 1))) (l' := [(4, .int ((nI (j + 1)))), (3, .int 1), (2, .int (nI k)), (1, .int bi), (0, .ref 112)]) dX11_fitting_58 rfl (nI_1 _) (by decide) rfl ?_
          refine ez_goto (tgt := 17) dX11_fitting_61 (by decide) ?_
          exact ez_eq (l2 := [(4, .int (nI (j + 1))), (3, .int 1), (2, .int (nI k)), (1, .int bi), (0, .ref 112)]) rfl rfl rfl rfl (ih2 (1) (by rw [a_fis, ← hac2, b_fis]; simp only [if_neg c3, if_pos b4]))
        · show ez_P _ _ _ _ _ _ 49 [(4, .int (nI j)), (3, .int is), (2, .int (nI k)), (1, .int bi), (0, .ref 112)] (.int 0 :: []) _ _
          refine ez_if_eq (tgt := 56) dX11_fitting_49 (by decide) (fun c6 => ?_) (fun c6 => absurd (by decide) c6)
          refine ez_iconst (v := 0) dX11_fitting_56 (by decide) ?_
          refine ez_istore_n (l' := [(3, .int 0), (4, .int (nI j)), (2, .int (nI k)), (1, .int bi), (0, .ref 112)]) dX11_fitting_57 rfl (by decide) rfl ?_
          refine ez_iinc (v := (nI (j + 1))) (l' := [(4, .int ((nI (j + 1)))), (3, .int 0), (2, .int (nI k)), (1, .int bi), (0, .ref 112)]) dX11_fitting_58 rfl (nI_1 _) (by decide) rfl ?_
          refine ez_goto (tgt := 17) dX11_fitting_61 (by decide) ?_
          exact ez_eq (l2 := [(4, .int (nI (j + 1))), (3, .int 0), (2, .int (nI k)), (1, .int bi), (0, .ref 112)]) rfl rfl rfl rfl (ih2 (0) (by rw [a_fis, ← hac2, b_fis]; simp only [if_neg c3, if_neg b4]))
    · rintro is hac2
      have hac2 : is = a_fis T k T.hd.length := hac2
      show ez_P _ _ _ _ _ _ 17 [(4, .int (nI T.hd.length)), (3, .int is), (2, .int (nI k)), (1, .int bi), (0, .ref 112)] [] (n, sl, kd, I, L, Rf) _
      refine ez_iload (i := 4) dX11_fitting_17 rfl ?_
      refine ez_aload_n (i := 0) dX11_fitting_19 rfl rfl ?_
      refine ez_getI dX11_fitting_20 flX11_346 (hF.lt (by decide)) (hF.kc (by decide) rfl) ?_
      refine ez_topE (y := nI T.hd.length) hQ.M.hd.1 ?_
      refine ez_icmp_ge (tgt := 64) dX11_fitting_23 (by decide) (fun c7 => ?_) (fun c7 => absurd (nI_le (Nat.le_refl _) (by have := hO.hdl; omega)) c7)
      refine ez_iload_n (i := 1) dX11_fitting_64 rfl rfl ?_
      refine ez_iload_n (i := 3) dX11_fitting_65 rfl rfl ?_
      refine ez_if_eq (tgt := 75) dX11_fitting_66 (by decide) (fun c8 => ?_) (fun c8 => ?_)
      · skip
        refine ez_iconst (v := 0) dX11_fitting_75 (by decide) ?_
        refine ez_ior dX11_fitting_76 ?_
        refine ez_istore_n (l' := [(1, .int (bi ||| 0)), (4, .int (nI T.hd.length)), (3, .int is), (2, .int (nI k)), (0, .ref 112)]) dX11_fitting_77 rfl (by decide) rfl ?_
        refine ez_iinc (v := (nI (k + 1))) (l' := [(2, .int ((nI (k + 1)))), (1, .int (bi ||| 0)), (4, .int (nI T.hd.length)), (3, .int is), (0, .ref 112)]) dX11_fitting_78 rfl (nI_1 _) (by decide) rfl ?_
        refine ez_goto (tgt := 4) dX11_fitting_81 (by decide) ?_
        refine ez_sub (l' := [(2, .int ((nI (k + 1)))), (1, .int (bi ||| 0)), (0, .ref 112)]) [0, 1, 4] rfl ?_
        exact ez_eq (l2 := [(2, .int (nI (k + 1))), (1, .int (bi ||| 0)), (0, .ref 112)]) rfl rfl rfl rfl (ih (bi ||| 0) (by rw [a_fit, ← hac, b_fit, ← hac2]; simp only [if_pos c8]))
      · skip
        refine ez_iconst (v := 1) dX11_fitting_69 (by decide) ?_
        refine ez_iload_n (i := 2) dX11_fitting_70 rfl rfl ?_
        refine ez_ishl dX11_fitting_71 ?_
        refine ez_goto (tgt := 76) dX11_fitting_72 (by decide) ?_
        refine ez_ior dX11_fitting_76 ?_
        refine ez_istore_n (l' := [(1, .int (bi ||| (1 <<< ((nI k) &&& 31)))), (4, .int (nI T.hd.length)), (3, .int is), (2, .int (nI k)), (0, .ref 112)]) dX11_fitting_77 rfl (by decide) rfl ?_
        refine ez_iinc (v := (nI (k + 1))) (l' := [(2, .int ((nI (k + 1)))), (1, .int (bi ||| (1 <<< ((nI k) &&& 31)))), (4, .int (nI T.hd.length)), (3, .int is), (0, .ref 112)]) dX11_fitting_78 rfl (nI_1 _) (by decide) rfl ?_
        refine ez_goto (tgt := 4) dX11_fitting_81 (by decide) ?_
        refine ez_sub (l' := [(2, .int ((nI (k + 1)))), (1, .int (bi ||| (1 <<< ((nI k) &&& 31)))), (0, .ref 112)]) [0, 1, 4] rfl ?_
        exact ez_eq (l2 := [(2, .int (nI (k + 1))), (1, .int (bi ||| (1 <<< ((nI k) &&& 31)))), (0, .ref 112)]) rfl rfl rfl rfl (ih (bi ||| (1 <<< ((nI k) &&& 31))) (by rw [a_fit, ← hac, b_fit, ← hac2]; simp only [if_neg c8]))
  · rintro bi hac
    have hac : bi = a_fit T T.c := hac
    show ez_P _ _ _ _ _ _ 4 [(2, .int (nI T.c)), (1, .int bi), (0, .ref 112)] [] (n, sl, kd, I, L, Rf) _
    refine ez_iload_n (i := 2) dX11_fitting_4 rfl rfl ?_
    refine ez_aload_n (i := 0) dX11_fitting_5 rfl rfl ?_
    refine ez_getI dX11_fitting_6 flX11_95 (hF.lt (by decide)) (hF.kc (by decide) rfl) ?_
    refine ez_topE (y := nI T.c) hQ.M.c ?_
    refine ez_icmp_ge (tgt := 84) dX11_fitting_9 (by decide) (fun c9 => ?_) (fun c9 => absurd (nI_le (Nat.le_refl _) (by omega)) c9)
    refine ez_iload_n (i := 1) dX11_fitting_84 rfl rfl ?_
    refine ez_iret dX11_fitting_85 rfl rfl ?_
    rw [hac]; exact ⟨rfl, rfl⟩
def s_fits (T : zT) : Int32 × zT := (a_fit T T.c, T.w_rw [(z_bc (a_fit T T.c)).toInt64])
theorem y_X11_fits {n : Nat} {sl : Nat × Nat} {kd : Nat → Nat × Nat} {I : Nat → Nat → Int32} {L : Nat → Nat → Int64} {Rf : Nat → Nat → Option Nat} (d : Nat) {T : zT} {H : Nat} (hM : zM n kd I L Rf T) (hO : zOk H T) (hH : H ≤ 1000000000)  : zq mX11_fits (d + 400) [.ref 112] (n, sl, kd, I, L, Rf) (zpM n sl kd I L Rf (some (.int (s_fits T).1)) (s_fits T).2) := by
  have hF := hM.F; have hc7 := hO.c
  have hsp : s_fits T = (a_fit T T.c, T.w_rw [(z_bc (a_fit T T.c)).toInt64]) := rfl
  rw [hsp]
  intro f B
  refine ez_meth pn_X.2.2.2.2.2.2.2.2.2.2.2 (Nat.le_of_ble_eq_true rfl) ?_
  show ez_P _ _ _ _ _ _ 0 [(0, .ref 112)] [] (n, sl, kd, I, L, Rf) _
  refine ez_aload_n (i := 0) dX11_fits_0 rfl rfl ?_
  refine ez_iconst (v := 0) dX11_fits_1 (by decide) ?_
  refine ez_pI dX11_fits_2 plX11_89 (hF.lt (by decide)) (hF.lx (by decide)) (hF.kc (by decide) rfl) rfl rfl ?_
  refine ez_nmI (fun I1 hI1 => ?_)
  have hQ2 : zQ n kd I L Rf I I1 L T (I 124) (I 112 25) := by rw [hI1]; exact zQ.start hM
  refine ez_aload_n (i := 0) dX11_fits_5 rfl rfl ?_
  refine ez_callV (M1 := mX11_fitting) (rest := []) dX11_fits_6 mlX11_352 mvX11_fitting rfl (hF.lt (by decide)) (hF.kc (by decide) rfl) (Nat.le_of_ble_eq_true rfl) rfl (y_X11_fitting (I := I1) (L := L) (d + 48) hQ2 hO hH ) eb_rok ?_
  rintro _ _ ⟨rfl, rfl⟩
  show ez_P _ _ _ _ _ _ 9 [(0, .ref 112)] (.int (a_fit T T.c) :: []) _ _
  refine ez_istore_n (l' := [(1, .int (a_fit T T.c)), (0, .ref 112)]) dX11_fits_9 rfl (by decide) rfl ?_
  refine ez_aload_n (i := 0) dX11_fits_10 rfl rfl ?_
  refine ez_iconst (v := 0) dX11_fits_11 (by decide) ?_
  refine ez_pI dX11_fits_12 plX11_92 (hF.lt (by decide)) (hF.lx (by decide)) (hF.kc (by decide) rfl) rfl rfl ?_
  refine ez_nmI (fun I3 hI3 => ?_)
  have hQ4 : zQ n kd I L Rf I I3 L (T.w_rw []) (I 124) (I 112 25) := by rw [hI3]; exact hQ2.row0
  refine ez_aload_n (i := 0) dX11_fits_15 rfl rfl ?_
  refine ez_iload_n (i := 1) dX11_fits_16 rfl rfl ?_
  refine ez_callS (M1 := mJ6_bitCount_0f7a4) (rest := [.ref 112]) dX11_fits_17 mlX11_319 msJ6_bitCount_0f7a4 rfl (Nat.le_of_ble_eq_true rfl) rfl (zq_r (fun σ => q_J6_bitCount_0f7a4 (σ := σ) (d + 399) (a_fit T T.c)) (n, sl, kd, I3, L, Rf)) eb_rok ?_
  rintro _ _ ⟨rfl, rfl⟩
  show ez_P _ _ _ _ _ _ 20 [(1, .int (a_fit T T.c)), (0, .ref 112)] (.int (z_bc (a_fit T T.c)) :: [.ref 112]) _ _
  refine ez_i2l dX11_fits_20 rfl ?_
  refine ez_callV (M1 := mX11_tell) (rest := []) dX11_fits_21 mlX11_252 mvX11_tell rfl (hF.lt (by decide)) (hF.kc (by decide) rfl) (Nat.le_of_ble_eq_true rfl) rfl (y_X11_tell (I := I3) (L := L) (d + 399) hF (k := 0) hQ4.M.rw.1 (by decide) ((z_bc (a_fit T T.c)).toInt64)) (eb_vok rfl) ?_
  rintro _ _ ⟨rfl, rfl⟩
  refine ez_nmI (fun I5 hI5 => ?_)
  refine ez_nmL (fun L6 hL6 => ?_)
  show ez_P _ _ _ _ _ _ 24 [(1, .int (a_fit T T.c)), (0, .ref 112)] [] (n, sl, kd, I5, L6, Rf) _
  have hQ7 : zQ n kd I L Rf I I5 L6 (T.w_rw [(z_bc (a_fit T T.c)).toInt64]) (I 124) (I 112 25) := by rw [hI5, hL6]; exact hQ4.tell ((z_bc (a_fit T T.c)).toInt64)
  refine ez_iload_n (i := 1) dX11_fits_24 rfl rfl ?_
  refine ez_iret dX11_fits_25 rfl rfl ?_
  exact hQ7.end
def b_aky (T : zT) (th w v : Int32) (k : Nat) (a : Int32) : Int32 := a + (if th >>> (nI k &&& 31) &&& 1 = 1 then (if zsoB T k w v = true then 1 else 0) else 0)
def a_aky (T : zT) (th w v : Int32) : Nat → Int32
  | 0 => 0
  | k + 1 => b_aky T th w v k (a_aky T th w v k)
def z_mst (T : zT) (th w v : Int32) : Int32 := if a_aky T th w v T.c < z_bc th - a_aky T th w v T.c then z_bc th - a_aky T th w v T.c else a_aky T th w v T.c
def b_ask (T : zT) (th : Int32) (k : Nat) (a : Int32 × Int32) : Int32 × Int32 := if nI (k % 10) ≤ z_hi (nI (k / 10)) then (if z_mst T th (nI (k / 10)) (nI (k % 10)) < a.2 then (nI k, z_mst T th (nI (k / 10)) (nI (k % 10))) else a) else a
def a_ask (T : zT) (th : Int32) : Nat → Int32 × Int32
  | 0 => (-1, 1000000)
  | k + 1 => b_ask T th k (a_ask T th k)
def s_asks (T : zT) : Int32 × zT := if a_fit T T.c = 0 then (-2, T) else ((a_ask T (a_fit T T.c) 50).1, T.w_rw [(a_ask T (a_fit T T.c) 50).2.toInt64])
theorem y_X11_asks {n : Nat} {sl : Nat × Nat} {kd : Nat → Nat × Nat} {I : Nat → Nat → Int32} {L : Nat → Nat → Int64} {Rf : Nat → Nat → Option Nat} (d : Nat) {T : zT} {H : Nat} (hM : zM n kd I L Rf T) (hO : zOk H T) (hH : H ≤ 1000000000)  : zq mX11_asks (d + 400) [.ref 112] (n, sl, kd, I, L, Rf) (zpM n sl kd I L Rf (some (.int (s_asks T).1)) (s_asks T).2) := by
  have hF := hM.F; have hc7 := hO.c
  intro f B
  refine ez_meth pn_X.2.2.2.2.2.2.2.2.2.2.2 (Nat.le_of_ble_eq_true rfl) ?_
  show ez_P _ _ _ _ _ _ 0 [(0, .ref 112)] [] (n, sl, kd, I, L, Rf) _
  refine ez_aload_n (i := 0) dX11_asks_0 rfl rfl ?_
  refine ez_iconst (v := 0) dX11_asks_1 (by decide) ?_
  refine ez_pI dX11_asks_2 plX11_89 (hF.lt (by decide)) (hF.lx (by decide)) (hF.kc (by decide) rfl) rfl rfl ?_
  refine ez_nmI (fun I1 hI1 => ?_)
  have hQ2 : zQ n kd I L Rf I I1 L T (I 124) (I 112 25) := by rw [hI1]; exact zQ.start hM
  refine ez_aload_n (i := 0) dX11_asks_5 rfl rfl ?_
  refine ez_callV (M1 := mX11_fitting) (rest := []) dX11_asks_6 mlX11_352 mvX11_fitting rfl (hF.lt (by decide)) (hF.kc (by decide) rfl) (Nat.le_of_ble_eq_true rfl) rfl (y_X11_fitting (I := I1) (L := L) (d + 48) hQ2 hO hH ) eb_rok ?_
  rintro _ _ ⟨rfl, rfl⟩
  show ez_P _ _ _ _ _ _ 9 [(0, .ref 112)] (.int (a_fit T T.c) :: []) _ _
  refine ez_istore_n (l' := [(1, .int (a_fit T T.c)), (0, .ref 112)]) dX11_asks_9 rfl (by decide) rfl ?_
  refine ez_iload_n (i := 1) dX11_asks_10 rfl rfl ?_
  refine ez_if_ne (tgt := 17) dX11_asks_11 (by decide) (fun c3 => ?_) (fun c3 => ?_)
  · skip
    have hne : ¬ a_fit T T.c = 0 := c3
    generalize hbi : a_fit T T.c = bi at *
    refine ez_iconst (v := (-1)) dX11_asks_17 (by decide) ?_
    refine ez_istore_n (l' := [(2, .int ((-1))), (1, .int bi), (0, .ref 112)]) dX11_asks_18 rfl (by decide) rfl ?_
    refine ez_ldcw (v := 1000000) dX11_asks_19 kcX11_284 ?_
    refine ez_istore_n (l' := [(3, .int 1000000), (2, .int ((-1))), (1, .int bi), (0, .ref 112)]) dX11_asks_22 rfl (by decide) rfl ?_
    refine ez_iconst (v := 0) dX11_asks_23 (by decide) ?_
    refine ez_istore (l' := [(4, .int 0), (3, .int 1000000), (2, .int ((-1))), (1, .int bi), (0, .ref 112)]) dX11_asks_24 (by decide) rfl ?_
    refine ez_eq (l2 := [(4, .int (nI 0)), (3, .int 1000000), (2, .int ((-1))), (1, .int bi), (0, .ref 112)]) (σ2 := (n, sl, kd, I1, L, Rf)) rfl rfl rfl rfl ?_
    refine ez_for 50 (fun k (a : Int32 × Int32) => ([(4, .int (nI k)), (3, .int a.2), (2, .int a.1), (1, .int bi), (0, .ref 112)], (n, sl, kd, I1, L, Rf))) (fun k a => (a.1, a.2) = a_ask T bi k) ?_ ?_ 50 0 ((-1), 1000000) (by omega) rfl
    · rintro k ⟨be, ls⟩ hk hac ih
      have hac : (be, ls) = a_ask T bi k := hac
      show ez_P _ _ _ _ _ _ 26 [(4, .int (nI k)), (3, .int ls), (2, .int be), (1, .int bi), (0, .ref 112)] [] (n, sl, kd, I1, L, Rf) _
      refine ez_iload (i := 4) dX11_asks_26 rfl ?_
      refine ez_bipush (v := 50) dX11_asks_28 (by decide) ?_
      refine ez_icmp_ge (tgt := 146) dX11_asks_30 (by decide) (fun c4 => absurd c4 (nI_ge (b := 50) hk (by decide))) (fun c4 => ?_)
      refine ez_iload (i := 4) dX11_asks_33 rfl ?_
      refine ez_bipush (v := 10) dX11_asks_35 (by decide) ?_
      refine ez_irem dX11_asks_37 (by decide) ?_
      refine ez_topE (y := nI (k % 10)) (z_irm (a := k) (m := 10) (by omega) (by decide) (by decide)) ?_
      refine ez_iload (i := 4) dX11_asks_38 rfl ?_
      refine ez_bipush (v := 10) dX11_asks_40 (by decide) ?_
      refine ez_idiv dX11_asks_42 (by decide) ?_
      refine ez_topE (y := nI (k / 10)) (z_idv (a := k) (m := 10) (by omega) (by decide)) ?_
      refine ez_callS (M1 := mX11_highOf) (rest := [.int (nI (k % 10))]) dX11_asks_43 mlX11_343 msX11_highOf rfl (Nat.le_of_ble_eq_true rfl) rfl (zq_r (q_X11_highOf (d + 399) (nI (k / 10))) (n, sl, kd, I1, L, Rf)) eb_rok ?_
      rintro _ _ ⟨rfl, rfl⟩
      show ez_P _ _ _ _ _ _ 46 [(4, .int (nI k)), (3, .int ls), (2, .int be), (1, .int bi), (0, .ref 112)] (.int (z_hi (nI (k / 10))) :: [.int (nI (k % 10))]) _ _
      refine ez_icmp_le (tgt := 52) dX11_asks_46 (by decide) (fun c5 => ?_) (fun c5 => ?_)
      · skip
        have hle : nI (k % 10) ≤ z_hi (nI (k / 10)) := c5
        refine ez_iconst (v := 0) dX11_asks_52 (by decide) ?_
        refine ez_istore (l' := [(5, .int 0), (4, .int (nI k)), (3, .int ls), (2, .int be), (1, .int bi), (0, .ref 112)]) dX11_asks_53 (by decide) rfl ?_
        refine ez_iconst (v := 0) dX11_asks_55 (by decide) ?_
        refine ez_istore (l' := [(6, .int 0), (5, .int 0), (4, .int (nI k)), (3, .int ls), (2, .int be), (1, .int bi), (0, .ref 112)]) dX11_asks_56 (by decide) rfl ?_
        refine ez_eq (l2 := [(6, .int (nI 0)), (5, .int 0), (4, .int (nI k)), (3, .int ls), (2, .int be), (1, .int bi), (0, .ref 112)]) (σ2 := (n, sl, kd, I1, L, Rf)) rfl rfl rfl rfl ?_
        refine ez_for T.c (fun j (a : Int32) => ([(6, .int (nI j)), (5, .int a), (4, .int (nI k)), (3, .int ls), (2, .int be), (1, .int bi), (0, .ref 112)], (n, sl, kd, I1, L, Rf))) (fun j a => a = a_aky T bi (nI (k / 10)) (nI (k % 10)) j) ?_ ?_ T.c 0 (0) (by omega) rfl
        · rintro j ye hk2 hac2 ih2
          have hac2 : ye = a_aky T bi (nI (k / 10)) (nI (k % 10)) j := hac2
          show ez_P _ _ _ _ _ _ 58 [(6, .int (nI j)), (5, .int ye), (4, .int (nI k)), (3, .int ls), (2, .int be), (1, .int bi), (0, .ref 112)] [] (n, sl, kd, I1, L, Rf) _
          refine ez_iload (i := 6) dX11_asks_58 rfl ?_
          refine ez_aload_n (i := 0) dX11_asks_60 rfl rfl ?_
          refine ez_getI dX11_asks_61 flX11_95 (hF.lt (by decide)) (hF.kc (by decide) rfl) ?_
          refine ez_topE (y := nI T.c) hQ2.M.c ?_
          refine ez_icmp_ge (tgt := 111) dX11_asks_64 (by decide) (fun c6 => absurd c6 (nI_ge hk2 (by omega))) (fun c6 => ?_)
          refine ez_iload (i := 5) dX11_asks_67 rfl ?_
          refine ez_iload_n (i := 1) dX11_asks_69 rfl rfl ?_
          refine ez_iload (i := 6) dX11_asks_70 rfl ?_
          refine ez_callS (M1 := mX11_has) (rest := [.int ye]) dX11_asks_72 mlX11_306 msX11_has rfl (Nat.le_of_ble_eq_true rfl) rfl (zq_b (q_X11_has (d + 399) bi (nI j)) (n, sl, kd, I1, L, Rf)) eb_bok ?_
          rintro _ _ ⟨rfl, ⟨b7, rfl⟩ | ⟨b7, rfl⟩⟩
          · show ez_P _ _ _ _ _ _ 75 [(6, .int (nI j)), (5, .int ye), (4, .int (nI k)), (3, .int ls), (2, .int be), (1, .int bi), (0, .ref 112)] (.int 1 :: [.int ye]) _ _
            refine ez_if_eq (tgt := 101) dX11_asks_75 (by decide) (fun c8 => absurd c8 (by decide)) (fun c8 => ?_)
            refine ez_aload_n (i := 0) dX11_asks_78 rfl rfl ?_
            refine ez_iload (i := 6) dX11_asks_79 rfl ?_
            refine ez_iload (i := 4) dX11_asks_81 rfl ?_
            refine ez_bipush (v := 10) dX11_asks_83 (by decide) ?_
            refine ez_idiv dX11_asks_85 (by decide) ?_
            refine ez_topE (y := nI (k / 10)) (z_idv (a := k) (m := 10) (by omega) (by decide)) ?_
            refine ez_iload (i := 4) dX11_asks_86 rfl ?_
            refine ez_bipush (v := 10) dX11_asks_88 (by decide) ?_
            refine ez_irem dX11_asks_90 (by decide) ?_
            refine ez_topE (y := nI (k % 10)) (z_irm (a := k) (m := 10) (by omega) (by decide) (by decide)) ?_
            refine ez_callV (M1 := mX11_isSo) (rest := [.int ye]) dX11_asks_91 mlX11_349 mvX11_isSo rfl (hF.lt (by decide)) (hF.kc (by decide) rfl) (Nat.le_of_ble_eq_true rfl) rfl (y_X11_isSo (I := I1) (L := L) (d + 49) hQ2 hO hH (b := j) hk2 (z_n9 (N := 4) (n0 := k / 10) (by omega) (by decide)) (nI (k % 10))) eb_bok ?_
            rintro _ _ ⟨rfl, ⟨b9, rfl⟩ | ⟨b9, rfl⟩⟩
            · show ez_P _ _ _ _ _ _ 94 [(6, .int (nI j)), (5, .int ye), (4, .int (nI k)), (3, .int ls), (2, .int be), (1, .int bi), (0, .ref 112)] (.int 1 :: [.int ye]) _ _
              refine ez_if_eq (tgt := 101) dX11_asks_94 (by decide) (fun c10 => absurd c10 (by decide)) (fun c10 => ?_)
              refine ez_iconst (v := 1) dX11_asks_97 (by decide) ?_
              refine ez_goto (tgt := 102) dX11_asks_98 (by decide) ?_
              refine ez_iadd dX11_asks_102 ?_
              refine ez_istore (l' := [(5, .int (ye + 1)), (6, .int (nI j)), (4, .int (nI k)), (3, .int ls), (2, .int be), (1, .int bi), (0, .ref 112)]) dX11_asks_103 (by decide) rfl ?_
              refine ez_iinc (v := (nI (j + 1))) (l' := [(6, .int ((nI (j + 1)))), (5, .int (ye + 1)), (4, .int (nI k)), (3, .int ls), (2, .int be), (1, .int bi), (0, .ref 112)]) dX11_asks_105 rfl (nI_1 _) (by decide) rfl ?_
              refine ez_goto (tgt := 58) dX11_asks_108 (by decide) ?_
              exact ez_eq (l2 := [(6, .int (nI (j + 1))), (5, .int (ye + 1)), (4, .int (nI k)), (3, .int ls), (2, .int be), (1, .int bi), (0, .ref 112)]) rfl rfl rfl rfl (ih2 (ye + 1) (by rw [a_aky, ← hac2, b_aky]; simp only [if_pos b7, if_pos b9]))
            · show ez_P _ _ _ _ _ _ 94 [(6, .int (nI j)), (5, .int ye), (4, .int (nI k)), (3, .int ls), (2, .int be), (1, .int bi), (0, .ref 112)] (.int 0 :: [.int ye]) _ _
              refine ez_if_eq (tgt := 101) dX11_asks_94 (by decide) (fun c11 => ?_) (fun c11 => absurd (by decide) c11)
              refine ez_iconst (v := 0) dX11_asks_101 (by decide) ?_
              refine ez_iadd dX11_asks_102 ?_
              refine ez_istore (l' := [(5, .int (ye + 0)), (6, .int (nI j)), (4, .int (nI k)), (3, .int ls), (2, .int be), (1, .int bi), (0, .ref 112)]) dX11_asks_103 (by decide) rfl ?_
              refine ez_iinc (v := (nI (j + 1))) (l' := [(6, .int ((nI (j + 1)))), (5, .int (ye + 0)), (4, .int (nI k)), (3, .int ls), (2, .int be), (1, .int bi), (0, .ref 112)]) dX11_asks_105 rfl (nI_1 _) (by decide) rfl ?_
              refine ez_goto (tgt := 58) dX11_asks_108 (by decide) ?_
              exact ez_eq (l2 := [(6, .int (nI (j + 1))), (5, .int (ye + 0)), (4, .int (nI k)), (3, .int ls), (2, .int be), (1, .int bi), (0, .ref 112)]) rfl rfl rfl rfl (ih2 (ye + 0) (by rw [a_aky, ← hac2, b_aky]; simp only [if_pos b7, if_neg b9]))
          · show ez_P _ _ _ _ _ _ 75 [(6, .int (nI j)), (5, .int ye), (4, .int (nI k)), (3, .int ls), (2, .int be), (1, .int bi), (0, .ref 112)] (.int 0 :: [.int ye]) _ _
            refine ez_if_eq (tgt := 101) dX11_asks_75 (by decide) (fun c12 => ?_) (fun c12 => absurd (by decide) c12)
            refine ez_iconst (v := 0) dX11_asks_101 (by decide) ?_
            refine ez_iadd dX11_asks_102 ?_
            refine ez_istore (l' := [(5, .int (ye + 0)), (6, .int (nI j)), (4, .int (nI k)), (3, .int ls), (2, .int be), (1, .int bi), (0, .ref 112)]) dX11_asks_103 (by decide) rfl ?_
            refine ez_iinc (v := (nI (j + 1))) (l' := [(6, .int ((nI (j + 1)))), (5, .int (ye + 0)), (4, .int (nI k)), (3, .int ls), (2, .int be), (1, .int bi), (0, .ref 112)]) dX11_asks_105 rfl (nI_1 _) (by decide) rfl ?_
            refine ez_goto (tgt := 58) dX11_asks_108 (by decide) ?_
            exact ez_eq (l2 := [(6, .int (nI (j + 1))), (5, .int (ye + 0)), (4, .int (nI k)), (3, .int ls), (2, .int be), (1, .int bi), (0, .ref 112)]) rfl rfl rfl rfl (ih2 (ye + 0) (by rw [a_aky, ← hac2, b_aky]; simp only [if_neg b7]))
        · rintro ye hac2
          have hac2 : ye = a_aky T bi (nI (k / 10)) (nI (k % 10)) T.c := hac2
          show ez_P _ _ _ _ _ _ 58 [(6, .int (nI T.c)), (5, .int ye), (4, .int (nI k)), (3, .int ls), (2, .int be), (1, .int bi), (0, .ref 112)] [] (n, sl, kd, I1, L, Rf) _
          refine ez_iload (i := 6) dX11_asks_58 rfl ?_
          refine ez_aload_n (i := 0) dX11_asks_60 rfl rfl ?_
          refine ez_getI dX11_asks_61 flX11_95 (hF.lt (by decide)) (hF.kc (by decide) rfl) ?_
          refine ez_topE (y := nI T.c) hQ2.M.c ?_
          refine ez_icmp_ge (tgt := 111) dX11_asks_64 (by decide) (fun c13 => ?_) (fun c13 => absurd (nI_le (Nat.le_refl _) (by omega)) c13)
          refine ez_iload (i := 5) dX11_asks_111 rfl ?_
          refine ez_iload_n (i := 1) dX11_asks_113 rfl rfl ?_
          refine ez_callS (M1 := mJ6_bitCount_0f7a4) (rest := [.int ye]) dX11_asks_114 mlX11_319 msJ6_bitCount_0f7a4 rfl (Nat.le_of_ble_eq_true rfl) rfl (zq_r (fun σ => q_J6_bitCount_0f7a4 (σ := σ) (d + 399) bi) (n, sl, kd, I1, L, Rf)) eb_rok ?_
          rintro _ _ ⟨rfl, rfl⟩
          show ez_P _ _ _ _ _ _ 117 [(6, .int (nI T.c)), (5, .int ye), (4, .int (nI k)), (3, .int ls), (2, .int be), (1, .int bi), (0, .ref 112)] (.int (z_bc bi) :: [.int ye]) _ _
          refine ez_iload (i := 5) dX11_asks_117 rfl ?_
          refine ez_isub dX11_asks_119 ?_
          refine ez_max dX11_asks_120 xmX11_201 (Nat.le_of_ble_eq_true rfl) ?_
          refine ez_istore (l' := [(6, .int (if ye < (z_bc bi) - ye then (z_bc bi) - ye else ye)), (5, .int ye), (4, .int (nI k)), (3, .int ls), (2, .int be), (1, .int bi), (0, .ref 112)]) dX11_asks_123 (by decide) rfl ?_
          refine ez_iload (i := 6) dX11_asks_125 rfl ?_
          refine ez_iload_n (i := 3) dX11_asks_127 rfl rfl ?_
          refine ez_icmp_lt (tgt := 134) dX11_asks_128 (by decide) (fun c14 => ?_) (fun c14 => ?_)
          · skip
            refine ez_iload (i := 4) dX11_asks_134 rfl ?_
            refine ez_istore_n (l' := [(2, .int (nI k)), (6, .int (if ye < (z_bc bi) - ye then (z_bc bi) - ye else ye)), (5, .int ye), (4, .int (nI k)), (3, .int ls), (1, .int bi), (0, .ref 112)]) dX11_asks_136 rfl (by decide) rfl ?_
            refine ez_iload (i := 6) dX11_asks_137 rfl ?_
            refine ez_istore_n (l' := [(3, .int (if ye < (z_bc bi) - ye then (z_bc bi) - ye else ye)), (2, .int (nI k)), (6, .int (if ye < (z_bc bi) - ye then (z_bc bi) - ye else ye)), (5, .int ye), (4, .int (nI k)), (1, .int bi), (0, .ref 112)]) dX11_asks_139 rfl (by decide) rfl ?_
            refine ez_iinc (v := (nI (k + 1))) (l' := [(4, .int ((nI (k + 1)))), (3, .int (if ye < (z_bc bi) - ye then (z_bc bi) - ye else ye)), (2, .int (nI k)), (6, .int (if ye < (z_bc bi) - ye then (z_bc bi) - ye else ye)), (5, .int ye), (1, .int bi), (0, .ref 112)]) dX11_asks_140 rfl (nI_1 _) (by decide) rfl ?_
            refine ez_goto (tgt := 26) dX11_asks_143 (by decide) ?_
            refine ez_sub (l' := [(4, .int ((nI (k + 1)))), (3, .int (if ye < (z_bc bi) - ye then (z_bc bi) - ye else ye)), (2, .int (nI k)), (1, .int bi), (0, .ref 112)]) [0, 1, 2, 5, 6] rfl ?_
            exact ez_eq (l2 := [(4, .int (nI (k + 1))), (3, .int (if ye < (z_bc bi) - ye then (z_bc bi) - ye else ye)), (2, .int (nI k)), (1, .int bi), (0, .ref 112)]) rfl rfl rfl rfl (ih (nI k, if ye < (z_bc bi) - ye then (z_bc bi) - ye else ye) (by rw [a_ask, ← hac, b_ask, z_mst, ← hac2]; simp only [if_pos hle, if_pos c14]))
          · skip
            refine ez_goto (tgt := 140) dX11_asks_131 (by decide) ?_
            refine ez_iinc (v := (nI (k + 1))) (l' := [(4, .int ((nI (k + 1)))), (6, .int (if ye < (z_bc bi) - ye then (z_bc bi) - ye else ye)), (5, .int ye), (3, .int ls), (2, .int be), (1, .int bi), (0, .ref 112)]) dX11_asks_140 rfl (nI_1 _) (by decide) rfl ?_
            refine ez_goto (tgt := 26) dX11_asks_143 (by decide) ?_
            refine ez_sub (l' := [(4, .int ((nI (k + 1)))), (3, .int ls), (2, .int be), (1, .int bi), (0, .ref 112)]) [0, 3, 4, 5, 6] rfl ?_
            exact ez_eq (l2 := [(4, .int (nI (k + 1))), (3, .int ls), (2, .int be), (1, .int bi), (0, .ref 112)]) rfl rfl rfl rfl (ih (be, ls) (by rw [a_ask, ← hac, b_ask, z_mst, ← hac2]; simp only [if_pos hle, if_neg c14]))
      · skip
        refine ez_goto (tgt := 140) dX11_asks_49 (by decide) ?_
        refine ez_iinc (v := (nI (k + 1))) (l' := [(4, .int ((nI (k + 1)))), (3, .int ls), (2, .int be), (1, .int bi), (0, .ref 112)]) dX11_asks_140 rfl (nI_1 _) (by decide) rfl ?_
        refine ez_goto (tgt := 26) dX11_asks_143 (by decide) ?_
        exact ez_eq (l2 := [(4, .int (nI (k + 1))), (3, .int ls), (2, .int be), (1, .int bi), (0, .ref 112)]) rfl rfl rfl rfl (ih (be, ls) (by rw [a_ask, ← hac, b_ask]; simp only [if_neg c5]))
    · rintro ⟨be, ls⟩ hac
      have hac : (be, ls) = a_ask T bi 50 := hac
      show ez_P _ _ _ _ _ _ 26 [(4, .int (nI 50)), (3, .int ls), (2, .int be), (1, .int bi), (0, .ref 112)] [] (n, sl, kd, I1, L, Rf) _
      refine ez_iload (i := 4) dX11_asks_26 rfl ?_
      refine ez_bipush (v := 50) dX11_asks_28 (by decide) ?_
      refine ez_icmp_ge (tgt := 146) dX11_asks_30 (by decide) (fun c15 => ?_) (fun c15 => absurd (by decide) c15)
      refine ez_aload_n (i := 0) dX11_asks_146 rfl rfl ?_
      refine ez_iconst (v := 0) dX11_asks_147 (by decide) ?_
      refine ez_pI dX11_asks_148 plX11_92 (hF.lt (by decide)) (hF.lx (by decide)) (hF.kc (by decide) rfl) rfl rfl ?_
      refine ez_nmI (fun I16 hI16 => ?_)
      have hQ17 : zQ n kd I L Rf I I16 L (T.w_rw []) (I 124) (I 112 25) := by rw [hI16]; exact hQ2.row0
      refine ez_aload_n (i := 0) dX11_asks_151 rfl rfl ?_
      refine ez_iload_n (i := 3) dX11_asks_152 rfl rfl ?_
      refine ez_i2l dX11_asks_153 rfl ?_
      refine ez_callV (M1 := mX11_tell) (rest := []) dX11_asks_154 mlX11_252 mvX11_tell rfl (hF.lt (by decide)) (hF.kc (by decide) rfl) (Nat.le_of_ble_eq_true rfl) rfl (y_X11_tell (I := I16) (L := L) (d + 399) hF (k := 0) hQ17.M.rw.1 (by decide) ls.toInt64) (eb_vok rfl) ?_
      rintro _ _ ⟨rfl, rfl⟩
      refine ez_nmI (fun I18 hI18 => ?_)
      refine ez_nmL (fun L19 hL19 => ?_)
      show ez_P _ _ _ _ _ _ 157 [(4, .int (nI 50)), (3, .int ls), (2, .int be), (1, .int bi), (0, .ref 112)] [] (n, sl, kd, I18, L19, Rf) _
      have hQ20 : zQ n kd I L Rf I I18 L19 (T.w_rw [ls.toInt64]) (I 124) (I 112 25) := by rw [hI18, hL19]; exact hQ17.tell ls.toInt64
      refine ez_iload_n (i := 2) dX11_asks_157 rfl rfl ?_
      refine ez_iret dX11_asks_158 rfl rfl ?_
      rw [show s_asks T = (be, T.w_rw [ls.toInt64]) from by unfold s_asks; rw [hbi, if_neg hne, ← hac]]
      exact hQ20.end
  · skip
    refine ez_bipush (v := (-2)) dX11_asks_14 (by decide) ?_
    refine ez_iret dX11_asks_16 rfl rfl ?_
    rw [show s_asks T = (-2, T) from by unfold s_asks; rw [if_pos (Classical.not_not.mp c3)]]
    exact hQ2.end
