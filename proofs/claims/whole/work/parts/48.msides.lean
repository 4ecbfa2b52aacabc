/-! the reference: sidesOf, pullBy, windOf, momentOf, pullOf; an hour -/
/-- what all weigh by their places, one not -/
def zso (rv : (Nat → Int32) → Int32) (pr : Nat → Int32) (c : Nat) (x : Nat → Int32) (ln hr wo : Int32) : Nat → Int32
  | 0 => 0
  | k + 1 => zso rv pr c x ln hr wo k + (if nI k = wo then 0 else zwl rv pr c x ln hr k * x (14 + k))
theorem zso_no {rv : (Nat → Int32) → Int32} {pr : Nat → Int32} {c : Nat} {x : Nat → Int32} {ln hr : Int32} (k : Nat) (hk : k < 1000) : zso rv pr c x ln hr (-1) k = zsl rv pr c x ln hr k := by
  induction k with
  | zero => rfl
  | succ k ih => rw [zso, zsl, ih (by omega), if_neg (z_nn k (by omega))]
theorem y_X11_sidesOf {n : Nat} {sl : Nat × Nat} {kd : Nat → Nat × Nat} {I : Nat → Nat → Int32} {L : Nat → Nat → Int64} {Rf : Nat → Nat → Option Nat} (d : Nat) {T : zT} (hW : zW n kd I Rf T) (hc7 : T.c ≤ 7) {H : Nat} {p : Nat} (hp : p = 113 ∨ p = 124) {x : Nat → Int32} (hx : ∀ k, k < 26 → I p k = x k) (hxr : zxr T.c H x) (hH : H ≤ 2147483648) (wo : Int32)  : zq mX11_sidesOf (d + 307) [.ref 112, .ref p, .int wo] (n, sl, kd, I, L, Rf) (eb_r (zso T.rv T.pr T.c x (x 22) (x 25) wo T.c) (n, sl, kd, I, L, Rf)) := by
  intro f B
  refine ez_meth pn_X.2.2.2.2.2.2.2.2.2.2.2 (Nat.le_of_ble_eq_true rfl) ?_
  have hF := hW.F
  show ez_P _ _ _ _ _ _ 0 [(0, .ref 112), (1, .ref p), (2, .int wo)] [] (n, sl, kd, I, L, Rf) _
  refine ez_iconst (v := 0) dX11_sidesOf_0 (by decide) ?_
  refine ez_istore_n (l' := [(3, .int 0), (0, .ref 112), (1, .ref p), (2, .int wo)]) dX11_sidesOf_1 rfl (by decide) rfl ?_
  refine ez_iconst (v := 0) dX11_sidesOf_2 (by decide) ?_
  refine ez_istore (l' := [(4, .int 0), (3, .int 0), (0, .ref 112), (1, .ref p), (2, .int wo)]) dX11_sidesOf_3 (by decide) rfl ?_
  refine ez_eq (l2 := [(4, .int (nI 0)), (3, .int (zso T.rv T.pr T.c x (x 22) (x 25) wo 0)), (0, .ref 112), (1, .ref p), (2, .int wo)]) (σ2 := (n, sl, kd, I, L, Rf)) rfl (by rw [nI_0]; rfl) rfl rfl ?_
  refine ez_for T.c (fun k (a : Unit) => ([(4, .int (nI k)), (3, .int (zso T.rv T.pr T.c x (x 22) (x 25) wo k)), (0, .ref 112), (1, .ref p), (2, .int wo)], (n, sl, kd, I, L, Rf))) (fun k a => True) ?_ ?_ T.c 0 () (by omega) trivial
  · intro k a hk hinv ih
    show ez_P _ _ _ _ _ _ 5 [(4, .int (nI k)), (3, .int (zso T.rv T.pr T.c x (x 22) (x 25) wo k)), (0, .ref 112), (1, .ref p), (2, .int wo)] [] (n, sl, kd, I, L, Rf) _
    refine ez_iload (i := 4) dX11_sidesOf_5 rfl ?_
    refine ez_aload_n (i := 0) dX11_sidesOf_7 rfl rfl ?_
    refine ez_getI dX11_sidesOf_8 flX11_95 (hF.lt (by decide)) (hF.kc (by decide) rfl) ?_
    refine ez_topE (y := nI T.c) hW.c ?_
    refine ez_icmp_ge (tgt := 48) dX11_sidesOf_11 (by decide) (fun c1 => absurd c1 (nI_ge hk (by omega))) (fun c1 => ?_)
    refine ez_iload_n (i := 3) dX11_sidesOf_14 rfl rfl ?_
    refine ez_iload (i := 4) dX11_sidesOf_15 rfl ?_
    refine ez_iload_n (i := 2) dX11_sidesOf_17 rfl rfl ?_
    refine ez_icmp_ne (tgt := 25) dX11_sidesOf_18 (by decide) (fun c2 => ?_) (fun c2 => ?_)
    · skip
      refine ez_aload_n (i := 0) dX11_sidesOf_25 rfl rfl ?_
      refine ez_aload_n (i := 1) dX11_sidesOf_26 rfl rfl ?_
      refine ez_iload (i := 4) dX11_sidesOf_27 rfl ?_
      refine ez_callV (M1 := mX11_weightOf) (rest := [.int (zso T.rv T.pr T.c x (x 22) (x 25) wo k)]) dX11_sidesOf_29 mlX11_204 mvX11_weightOf rfl (hF.lt (by decide)) (hF.kc (by decide) rfl) (Nat.le_of_ble_eq_true rfl) rfl (y_X11_weightOf d hW hc7 hp hx hxr hH hk) eb_rok ?_
      rintro _ _ ⟨rfl, rfl⟩
      show ez_P _ _ _ _ _ _ 32 [(4, .int (nI k)), (3, .int (zso T.rv T.pr T.c x (x 22) (x 25) wo k)), (0, .ref 112), (1, .ref p), (2, .int wo)] (.int (zwl T.rv T.pr T.c x (x 22) (x 25) k) :: [.int (zso T.rv T.pr T.c x (x 22) (x 25) wo k)]) _ _
      refine ez_aload_n (i := 1) dX11_sidesOf_32 rfl rfl ?_
      refine ez_bipush (v := 14) dX11_sidesOf_33 (by decide) ?_
      refine ez_iload (i := 4) dX11_sidesOf_35 rfl ?_
      refine ez_iadd dX11_sidesOf_37 ?_
      refine ez_topE (y := nI (14 + k)) (nI_add _ _) ?_
      refine ez_iaN (k := (14 + k)) dX11_sidesOf_38 (z_pn hF hp) (z_pk hF hp) (by omega) (by decide) ?_
      refine ez_topE (y := x (14 + k)) (hx _ (by omega)) ?_
      refine ez_imul dX11_sidesOf_39 ?_
      refine ez_iadd dX11_sidesOf_40 ?_
      refine ez_istore_n (l' := [(3, .int ((zso T.rv T.pr T.c x (x 22) (x 25) wo k) + ((zwl T.rv T.pr T.c x (x 22) (x 25) k) * (x (14 + k))))), (4, .int (nI k)), (0, .ref 112), (1, .ref p), (2, .int wo)]) dX11_sidesOf_41 rfl (by decide) rfl ?_
      refine ez_iinc (v := (nI (k + 1))) (l' := [(4, .int ((nI (k + 1)))), (3, .int ((zso T.rv T.pr T.c x (x 22) (x 25) wo k) + ((zwl T.rv T.pr T.c x (x 22) (x 25) k) * (x (14 + k))))), (0, .ref 112), (1, .ref p), (2, .int wo)]) dX11_sidesOf_42 rfl (nI_1 _) (by decide) rfl ?_
      refine ez_goto (tgt := 5) dX11_sidesOf_45 (by decide) ?_
      refine ez_eq (l2 := [(4, .int (nI (k + 1))), (3, .int (zso T.rv T.pr T.c x (x 22) (x 25) wo (k + 1))), (0, .ref 112), (1, .ref p), (2, .int wo)]) rfl ?_ rfl rfl (ih () trivial)
      rw [zso]; first | rw [if_pos (Classical.not_not.mp (by assumption))] | rw [if_neg (by assumption)]
    · skip
      refine ez_iconst (v := 0) dX11_sidesOf_21 (by decide) ?_
      refine ez_goto (tgt := 40) dX11_sidesOf_22 (by decide) ?_
      refine ez_iadd dX11_sidesOf_40 ?_
      refine ez_istore_n (l' := [(3, .int ((zso T.rv T.pr T.c x (x 22) (x 25) wo k) + 0)), (4, .int (nI k)), (0, .ref 112), (1, .ref p), (2, .int wo)]) dX11_sidesOf_41 rfl (by decide) rfl ?_
      refine ez_iinc (v := (nI (k + 1))) (l' := [(4, .int ((nI (k + 1)))), (3, .int ((zso T.rv T.pr T.c x (x 22) (x 25) wo k) + 0)), (0, .ref 112), (1, .ref p), (2, .int wo)]) dX11_sidesOf_42 rfl (nI_1 _) (by decide) rfl ?_
      refine ez_goto (tgt := 5) dX11_sidesOf_45 (by decide) ?_
      refine ez_eq (l2 := [(4, .int (nI (k + 1))), (3, .int (zso T.rv T.pr T.c x (x 22) (x 25) wo (k + 1))), (0, .ref 112), (1, .ref p), (2, .int wo)]) rfl ?_ rfl rfl (ih () trivial)
      rw [zso]; first | rw [if_pos (Classical.not_not.mp (by assumption))] | rw [if_neg (by assumption)]
  · intro a hinv
    show ez_P _ _ _ _ _ _ 5 [(4, .int (nI T.c)), (3, .int (zso T.rv T.pr T.c x (x 22) (x 25) wo T.c)), (0, .ref 112), (1, .ref p), (2, .int wo)] [] (n, sl, kd, I, L, Rf) _
    refine ez_iload (i := 4) dX11_sidesOf_5 rfl ?_
    refine ez_aload_n (i := 0) dX11_sidesOf_7 rfl rfl ?_
    refine ez_getI dX11_sidesOf_8 flX11_95 (hF.lt (by decide)) (hF.kc (by decide) rfl) ?_
    refine ez_topE (y := nI T.c) hW.c ?_
    refine ez_icmp_ge (tgt := 48) dX11_sidesOf_11 (by decide) (fun c3 => ?_) (fun c3 => absurd (nI_le (Nat.le_refl _) (by omega)) c3)
    refine ez_iload_n (i := 3) dX11_sidesOf_48 rfl rfl ?_
    refine ez_iret dX11_sidesOf_49 rfl rfl ?_
    exact ⟨rfl, rfl⟩
theorem q_X11_pullBy (d : Nat) (v : Int32) (σ : eb_S) : eb_Q mX11_pullBy (d + 1) [.int v] σ (eb_r (z_put (v / 8) (-20) 20) σ) := by
  refine ep_meth pn_X.2.2.2.2.2.2.2.2.2.2.2 (Nat.le_of_ble_eq_true rfl) ?_
  show eb_P _ _ 0 [(0, .int v)] [] σ _
  refine ep_bipush (v := (-20)) dX11_pullBy_0 (by decide) ?_
  refine ep_bipush (v := 20) dX11_pullBy_2 (by decide) ?_
  refine ep_iload_n (i := 0) dX11_pullBy_4 rfl rfl ?_
  refine ep_bipush (v := 8) dX11_pullBy_5 (by decide) ?_
  refine ep_idiv dX11_pullBy_7 (by decide) ?_
  refine ep_min dX11_pullBy_8 xmX11_197 (Nat.le_of_ble_eq_true rfl) ?_
  refine ep_max dX11_pullBy_11 xmX11_201 (Nat.le_of_ble_eq_true rfl) ?_
  refine ep_iret dX11_pullBy_14 rfl rfl ?_
  exact ⟨rfl, by rw [z_put_mm _ _ _ (by decide)]⟩
theorem z_irm {a m : Nat} (ha : a < 2147483648) (hm : m < 2147483648) (h0 : 0 < m) : nI a - nI a / nI m * nI m = nI (a % m) := by
  have h6 : m * (a / m) + a % m = a := Nat.div_add_mod a m
  have h7 : a % m < m := Nat.mod_lt a h0
  have h8 : a / m ≤ a := Nat.div_le_self a m
  have h9 : (a : Int).tdiv (m : Int) = ((a / m : Nat) : Int) := (Int.ofNat_tdiv a m).symm
  generalize a / m = q at *
  generalize a % m = r at *
  have h1 : (nI a).toInt = a := nI_toInt ha
  have h2 : (nI m).toInt = m := nI_toInt hm
  have h3 : (nI r).toInt = r := nI_toInt (by omega)
  have h5 : (nI q).toInt = q := nI_toInt (by omega)
  have h4 : nI a / nI m = nI q := by
    apply Int32.toInt_inj.mp
    rw [Int32.toInt_div, h1, h2, h5, h9]
    exact Int.bmod_eq_of_le (by omega) (by omega)
  have h10 : q * m = m * q := Nat.mul_comm q m
  have h11 : q * m ≤ a := by omega
  rw [h4, nI_mul]
  apply Int32.toInt_inj.mp
  have h12 : (nI (q * m)).toInt = ((q * m : Nat) : Int) := nI_toInt (by omega)
  rw [Int32.toInt_sub, h1, h12, h3]
  have e : ((a : Int) - ((q * m : Nat) : Int)) = (r : Int) := by
    generalize q * m = u at *
    omega
  rw [e]
  exact Int.bmod_eq_of_le (by omega) (by omega)
theorem y_X11_windOf {n : Nat} {sl : Nat × Nat} {kd : Nat → Nat × Nat} {I : Nat → Nat → Int32} {L : Nat → Nat → Int64} {Rf : Nat → Nat → Option Nat} (d : Nat) {T : zT} (hW : zW n kd I Rf T) (hc7 : T.c ≤ 7) {H : Nat} {p : Nat} (hp : p = 113 ∨ p = 124) {x : Nat → Int32} (hx : ∀ k, k < 26 → I p k = x k) (hxr : zxr T.c H x) (hH : H ≤ 2147483648) (hwm : 0 < T.wm ∧ T.wm ≤ 20) {hr : Nat} (hhr : x 25 = nI hr) (hhr2 : hr < 2147483648)  : zq mX11_windOf d [.ref 112, .ref p] (n, sl, kd, I, L, Rf) (eb_r (T.wd (hr % T.wm)) (n, sl, kd, I, L, Rf)) := by
  intro f B
  refine ez_meth pn_X.2.2.2.2.2.2.2.2.2.2.2 (Nat.le_of_ble_eq_true rfl) ?_
  have hF := hW.F
  have hmd := Nat.mod_lt hr hwm.1
  show ez_P _ _ _ _ _ _ 0 [(0, .ref 112), (1, .ref p)] [] (n, sl, kd, I, L, Rf) _
  refine ez_aload_n (i := 0) dX11_windOf_0 rfl rfl ?_
  refine ez_getR dX11_windOf_1 flX11_16 (hF.lt (by decide)) (hF.kc (by decide) rfl) (hF.pt 109 rfl) ?_
  refine ez_aload_n (i := 1) dX11_windOf_4 rfl rfl ?_
  refine ez_bipush (v := 25) dX11_windOf_5 (by decide) ?_
  refine ez_iaN (k := 25) dX11_windOf_7 (z_pn hF hp) (z_pk hF hp) (by omega) (by decide) ?_
  refine ez_topE (y := nI hr) ((hx _ (by omega)).trans hhr) ?_
  refine ez_aload_n (i := 0) dX11_windOf_8 rfl rfl ?_
  refine ez_getI dX11_windOf_9 flX11_19 (hF.lt (by decide)) (hF.kc (by decide) rfl) ?_
  refine ez_topE (y := nI T.wm) hW.wm ?_
  refine ez_irem dX11_windOf_12 (nI_ne0 hwm.1 (by omega)) ?_
  refine ez_topE (y := nI (hr % T.wm)) (z_irm hhr2 (by omega) hwm.1) ?_
  refine ez_iaN (k := (hr % T.wm)) dX11_windOf_13 (hF.lt (by decide)) (hF.ka (by decide) rfl) (by omega) (by decide) ?_
  refine ez_topE (y := T.wd (hr % T.wm)) (hW.wd _ hmd) ?_
  refine ez_iret dX11_windOf_14 rfl rfl ?_
  exact ⟨rfl, rfl⟩
theorem y_X11_momentOf {n : Nat} {sl : Nat × Nat} {kd : Nat → Nat × Nat} {I : Nat → Nat → Int32} {L : Nat → Nat → Int64} {Rf : Nat → Nat → Option Nat} (d : Nat) {T : zT} (hW : zW n kd I Rf T) (hc7 : T.c ≤ 7) {H : Nat} {p : Nat} (hp : p = 113 ∨ p = 124) {x : Nat → Int32} (hx : ∀ k, k < 26 → I p k = x k) (hxr : zxr T.c H x) (hH : H ≤ 2147483648) (wd : Int32)  : zq mX11_momentOf (d + 308) [.ref 112, .ref p, .int wd] (n, sl, kd, I, L, Rf) (eb_r (zsl T.rv T.pr T.c x (x 22) (x 25) T.c + 2 * wd * x 21) (n, sl, kd, I, L, Rf)) := by
  intro f B
  refine ez_meth pn_X.2.2.2.2.2.2.2.2.2.2.2 (Nat.le_of_ble_eq_true rfl) ?_
  have hF := hW.F
  show ez_P _ _ _ _ _ _ 0 [(0, .ref 112), (1, .ref p), (2, .int wd)] [] (n, sl, kd, I, L, Rf) _
  refine ez_aload_n (i := 0) dX11_momentOf_0 rfl rfl ?_
  refine ez_aload_n (i := 1) dX11_momentOf_1 rfl rfl ?_
  refine ez_iconst (v := (-1)) dX11_momentOf_2 (by decide) ?_
  refine ez_callV (M1 := mX11_sidesOf) (rest := []) dX11_momentOf_3 mlX11_208 mvX11_sidesOf rfl (hF.lt (by decide)) (hF.kc (by decide) rfl) (Nat.le_of_ble_eq_true rfl) rfl (y_X11_sidesOf d hW hc7 hp hx hxr hH (-1)) eb_rok ?_
  rintro _ _ ⟨rfl, rfl⟩
  show ez_P _ _ _ _ _ _ 6 [(0, .ref 112), (1, .ref p), (2, .int wd)] (.int (zso T.rv T.pr T.c x (x 22) (x 25) (-1) T.c) :: []) _ _
  refine ez_iconst (v := 2) dX11_momentOf_6 (by decide) ?_
  refine ez_iload_n (i := 2) dX11_momentOf_7 rfl rfl ?_
  refine ez_imul dX11_momentOf_8 ?_
  refine ez_aload_n (i := 1) dX11_momentOf_9 rfl rfl ?_
  refine ez_bipush (v := 21) dX11_momentOf_10 (by decide) ?_
  refine ez_iaN (k := 21) dX11_momentOf_12 (z_pn hF hp) (z_pk hF hp) (by omega) (by decide) ?_
  refine ez_topE (y := x 21) (hx _ (by omega)) ?_
  refine ez_imul dX11_momentOf_13 ?_
  refine ez_iadd dX11_momentOf_14 ?_
  refine ez_iret dX11_momentOf_15 rfl rfl ?_
  exact ⟨rfl, by rw [zso_no _ (by omega)]⟩
theorem y_X11_pullOf {n : Nat} {sl : Nat × Nat} {kd : Nat → Nat × Nat} {I : Nat → Nat → Int32} {L : Nat → Nat → Int64} {Rf : Nat → Nat → Option Nat} (d : Nat) {T : zT} (hW : zW n kd I Rf T) (hc7 : T.c ≤ 7) {H : Nat} {p : Nat} (hp : p = 113 ∨ p = 124) {x : Nat → Int32} (hx : ∀ k, k < 26 → I p k = x k) (hxr : zxr T.c H x) (hH : H ≤ 2147483648) (hwm : 0 < T.wm ∧ T.wm ≤ 20) {hr : Nat} (hhr : x 25 = nI hr) (hhr2 : hr < 2147483648)  : zq mX11_pullOf (d + 309) [.ref 112, .ref p] (n, sl, kd, I, L, Rf) (eb_r (z_pull (zsl T.rv T.pr T.c x (x 22) (x 25) T.c) (T.wd (hr % T.wm)) (x 21)) (n, sl, kd, I, L, Rf)) := by
  intro f B
  refine ez_meth pn_X.2.2.2.2.2.2.2.2.2.2.2 (Nat.le_of_ble_eq_true rfl) ?_
  have hF := hW.F
  show ez_P _ _ _ _ _ _ 0 [(0, .ref 112), (1, .ref p)] [] (n, sl, kd, I, L, Rf) _
  refine ez_aload_n (i := 0) dX11_pullOf_0 rfl rfl ?_
  refine ez_aload_n (i := 1) dX11_pullOf_1 rfl rfl ?_
  refine ez_aload_n (i := 0) dX11_pullOf_2 rfl rfl ?_
  refine ez_aload_n (i := 1) dX11_pullOf_3 rfl rfl ?_
  refine ez_callV (M1 := mX11_windOf) (rest := [.ref p, .ref 112]) dX11_pullOf_4 mlX11_211 mvX11_windOf rfl (hF.lt (by decide)) (hF.kc (by decide) rfl) (Nat.le_of_ble_eq_true rfl) rfl (y_X11_windOf (d + 308) hW hc7 hp hx hxr hH hwm hhr hhr2) eb_rok ?_
  rintro _ _ ⟨rfl, rfl⟩
  show ez_P _ _ _ _ _ _ 7 [(0, .ref 112), (1, .ref p)] (.int (T.wd (hr % T.wm)) :: [.ref p, .ref 112]) _ _
  refine ez_callV (M1 := mX11_momentOf) (rest := []) dX11_pullOf_7 mlX11_215 mvX11_momentOf rfl (hF.lt (by decide)) (hF.kc (by decide) rfl) (Nat.le_of_ble_eq_true rfl) rfl (y_X11_momentOf d hW hc7 hp hx hxr hH (T.wd (hr % T.wm))) eb_rok ?_
  rintro _ _ ⟨rfl, rfl⟩
  show ez_P _ _ _ _ _ _ 10 [(0, .ref 112), (1, .ref p)] (.int (zsl T.rv T.pr T.c x (x 22) (x 25) T.c + 2 * T.wd (hr % T.wm) * x 21) :: []) _ _
  refine ez_callS (M1 := mX11_pullBy) (rest := []) dX11_pullOf_10 mlX11_218 msX11_pullBy rfl (Nat.le_of_ble_eq_true rfl) rfl (zq_r (q_X11_pullBy (d + 307) (zsl T.rv T.pr T.c x (x 22) (x 25) T.c + 2 * T.wd (hr % T.wm) * x 21)) (n, sl, kd, I, L, Rf)) eb_rok ?_
  rintro _ _ ⟨rfl, rfl⟩
  show ez_P _ _ _ _ _ _ 13 [(0, .ref 112), (1, .ref p)] (.int (z_put ((zsl T.rv T.pr T.c x (x 22) (x 25) T.c + 2 * T.wd (hr % T.wm) * x 21) / 8) (-20) 20) :: []) _ _
  refine ez_iret dX11_pullOf_13 rfl rfl ?_
  exact ⟨rfl, rfl⟩
