/-! the reference: hours on a row -/
/-- how a lean goes, as the reference tells it -/
def z_lr (lean pull : Int32) : Int32 := lean + (if pull - lean ≤ 0 then -(if pull - lean ≠ 0 then (if z_ab (pull - lean) < 6 then 1 else 2) else 0) else (if pull - lean ≠ 0 then (if z_ab (pull - lean) < 6 then 1 else 2) else 0))
theorem z_lr_k : ∀ x, x < 41 → ∀ y, y < 41 → z_lr (nI x - 20) (nI y - 20) = z_lb (nI x - 20) (nI y - 20) := by decide +kernel
theorem z_lr_lb {x y : Int32} (hx : z_rg x) (hy : z_rg y) : z_lr x y = z_lb x y := by
  obtain ⟨a, ha, rfl⟩ := hx
  obtain ⟨b, hb, rfl⟩ := hy
  exact z_lr_k a ha b hb
/-- from -9 to 9 -/
def z_wr (w : Int32) : Prop := ∃ v, v < 19 ∧ w = nI v - 9
theorem z_ws_k : ∀ v, v < 19 → ∀ k, k < 10 → z_ab (nI v - 9) * nI k = z_ab ((nI v - 9) * nI k) := by decide +kernel
theorem z_wq_k : ∀ v, v < 19 → ∀ k, k < 10 → (z_ab ((nI v - 9) * nI k) / 3).toNatClampNeg ≤ 27 ∧ z_ab ((nI v - 9) * nI k) / 3 = nI (z_ab ((nI v - 9) * nI k) / 3).toNatClampNeg := by decide +kernel
theorem z_l2_k : ∀ x, x < 41 → (z_ab (nI x - 20) / 2).toNatClampNeg ≤ 10 ∧ z_ab (nI x - 20) / 2 = nI (z_ab (nI x - 20) / 2).toNatClampNeg := by decide +kernel
theorem z_mx_k : ∀ a, a < 28 → ∀ b, b < 11 → z_mx (nI a - nI b) 0 = nI (a - b) := by decide +kernel
/-- what an hour makes -/
theorem z_mk {w s l : Int32} (hw : z_wr w) (hs : ∃ k, k < 10 ∧ s = nI k) (hl : z_rg l) : ∃ j, j ≤ 27 ∧ z_mx (z_ab (w * s) / 3 - z_ab l / 2) 0 = nI j := by
  obtain ⟨v, hv, rfl⟩ := hw
  obtain ⟨k, hk, rfl⟩ := hs
  obtain ⟨x, hx, rfl⟩ := hl
  obtain ⟨h1, h2⟩ := z_wq_k v hv k hk
  obtain ⟨h3, h4⟩ := z_l2_k x hx
  rw [h2, h4, z_mx_k _ (by omega) _ (by omega)]
  exact ⟨_, by omega, rfl⟩
theorem z_mn_c (a b : Int32) : (if a < b then a else b) = z_mn a b := by
  unfold z_mn
  by_cases h : a < b
  · rw [if_pos h, if_neg (Int32.not_lt.mpr (Int32.le_of_lt h))]
  · rw [if_neg h]
    by_cases h2 : b < a
    · rw [if_pos h2]
    · rw [if_neg h2]; exact Int32.le_antisymm (Int32.not_lt.mp h) (Int32.not_lt.mp h2)
theorem z_mn_n {a b : Nat} (ha : a < 2147483648) (hb : b < 2147483648) : z_mn (nI a) (nI b) = nI (min a b) := by
  unfold z_mn
  by_cases h : b < a
  · rw [if_pos (nI_lt h ha), Nat.min_eq_right (by omega)]
  · rw [if_neg (Int32.not_lt.mpr (nI_le (by omega) hb)), Nat.min_eq_left (by omega)]
/-- the lean, the leagues, the row behind an hour of wind w; whether over -/
def zhl (T : zT) (w : Int32) (x : Nat → Int32) : Int32 := z_lb (x 22) (z_pull (zsl T.rv T.pr T.c x (x 22) (x 25) T.c) w (x 21))
def zhg (T : zT) (w : Int32) (x : Nat → Int32) : Int32 := z_mn (x 23 + z_mx (z_ab (w * x 21) / 3 - z_ab (zhl T w x) / 2) 0) 9999
def zh1 (T : zT) (w : Int32) (x : Nat → Int32) : Nat → Int32 := fun k => if k = 21 then (if z_ab (zhl T w x) < 15 then x 21 else 0) else if k = 22 then zhl T w x else if k = 23 then zhg T w x else if k = 24 then (if z_ab (zhl T w x) < 15 then x 24 else z_mn (x 24 + 1) 999) else if k = 25 then x 25 + 1 else x k
def zho (T : zT) (w : Int32) (x : Nat → Int32) : Int32 := if z_ab (zhl T w x) < 15 then 0 else 1
/-- the wind of a row's hour -/
def zhw (T : zT) (x : Nat → Int32) : Int32 := T.wd ((x 25).toNatClampNeg % T.wm)
/-- k hours; how often over in these -/
def zhk (T : zT) (x : Nat → Int32) : Nat → Nat → Int32
  | 0 => x
  | k + 1 => zh1 T (zhw T (zhk T x k)) (zhk T x k)
def zhc (T : zT) (x : Nat → Int32) : Nat → Int32
  | 0 => 0
  | k + 1 => zhc T x k + zho T (zhw T (zhk T x k)) (zhk T x k)
theorem zh1_o {T : zT} {w : Int32} {x : Nat → Int32} {k : Nat} (h1 : k ≠ 21) (h2 : k ≠ 22) (h3 : k ≠ 23) (h4 : k ≠ 24) (h5 : k ≠ 25) : zh1 T w x k = x k := by unfold zh1; rw [if_neg h1, if_neg h2, if_neg h3, if_neg h4, if_neg h5]
theorem zh1_21 {T : zT} {w : Int32} {x : Nat → Int32} : zh1 T w x 21 = (if z_ab (zhl T w x) < 15 then x 21 else 0) := rfl
theorem zh1_22 {T : zT} {w : Int32} {x : Nat → Int32} : zh1 T w x 22 = zhl T w x := rfl
theorem zh1_23 {T : zT} {w : Int32} {x : Nat → Int32} : zh1 T w x 23 = zhg T w x := rfl
theorem zh1_24 {T : zT} {w : Int32} {x : Nat → Int32} : zh1 T w x 24 = (if z_ab (zhl T w x) < 15 then x 24 else z_mn (x 24 + 1) 999) := rfl
theorem zh1_25 {T : zT} {w : Int32} {x : Nat → Int32} : zh1 T w x 25 = x 25 + 1 := rfl
theorem zhl_rg {T : zT} {w : Int32} {x : Nat → Int32} (h : z_rg (x 22)) : z_rg (zhl T w x) := z_lb_rg h (z_pull_rg _ _ _)
theorem zhg_n {T : zT} {w : Int32} {x : Nat → Int32} {c H : Nat} (hx : zxr c H x) (hw : z_wr w) : ∃ k, k < 10000 ∧ zhg T w x = nI k := by
  obtain ⟨j, hj, e⟩ := z_mk hw hx.s (zhl_rg (T := T) (w := w) hx.l)
  obtain ⟨k, hk, e2⟩ := hx.lg
  refine ⟨min (k + j) 9999, by omega, ?_⟩
  unfold zhg
  rw [e, e2, nI_add, show (9999 : Int32) = nI 9999 from rfl, z_mn_n (by omega) (by decide)]
theorem zh1_xr {T : zT} {w : Int32} {x : Nat → Int32} {c H : Nat} (hx : zxr c H x) (hw : z_wr w) (hc : c ≤ 7) : zxr c (H + 1) (zh1 T w x) := by
  refine ⟨fun b hb => ?_, fun b hb => ?_, fun b hb => ?_, ?_, zhl_rg hx.l, zhg_n hx hw, ?_, ?_⟩
  · rw [zh1_o (by omega) (by omega) (by omega) (by omega) (by omega)]; exact hx.g b hb
  · rw [zh1_o (by omega) (by omega) (by omega) (by omega) (by omega)]; exact hx.t b hb
  · rw [zh1_o (by omega) (by omega) (by omega) (by omega) (by omega)]; exact hx.p b hb
  · rw [zh1_21]; split
    · exact hx.s
    · exact ⟨0, by decide, rfl⟩
  · rw [zh1_24]; split
    · exact hx.ov
    · obtain ⟨k, hk, e⟩ := hx.ov
      refine ⟨min (k + 1) 999, by omega, ?_⟩
      rw [e, nI_1, show (999 : Int32) = nI 999 from rfl, z_mn_n (by omega) (by decide)]
  · obtain ⟨k, hk, e⟩ := hx.h
    exact ⟨k + 1, by omega, by rw [zh1_25, e, nI_1]⟩
theorem zhw_wr {T : zT} {x : Nat → Int32} (hwm : 0 < T.wm) (hwd : ∀ k, k < T.wm → ∃ v, v < 19 ∧ T.wd k = nI v - 9) : z_wr (zhw T x) := hwd _ (Nat.mod_lt _ hwm)
theorem zhk_xr {T : zT} {x : Nat → Int32} {c H : Nat} (hx : zxr c H x) (hwm : 0 < T.wm) (hwd : ∀ k, k < T.wm → ∃ v, v < 19 ∧ T.wd k = nI v - 9) (hc : c ≤ 7) (k : Nat) : zxr c (H + k) (zhk T x k) := by
  induction k with
  | zero => exact hx
  | succ k ih => exact zh1_xr ih (zhw_wr hwm hwd) hc
/-- a row's cells behind hours: o how often over, from the call's start -/
def zhp (I I1 : Nat → Nat → Int32) (p : Nat) (x : Nat → Int32) (o : Int32) : Prop := (∀ k, k < 26 → I1 p k = x k) ∧ I1 112 25 = o ∧ (∀ c, c ≠ p → c ≠ 112 → I1 c = I c) ∧ ∀ k, k ≠ 25 → I1 112 k = I 112 k
theorem zhp.tr {I I1 I2 : Nat → Nat → Int32} {p : Nat} {x y : Nat → Int32} {o q : Int32} (h : zhp I I1 p x o) (g : zhp I1 I2 p y q) : zhp I I2 p y q := ⟨g.1, g.2.1, fun c h1 h2 => (g.2.2.1 c h1 h2).trans (h.2.2.1 c h1 h2), fun k hk => (g.2.2.2 k hk).trans (h.2.2.2 k hk)⟩
theorem zhp.W {n : Nat} {kd : Nat → Nat × Nat} {I I1 : Nat → Nat → Int32} {Rf : Nat → Nat → Option Nat} {T : zT} {p : Nat} {x : Nat → Int32} {o : Int32} (h : zhp I I1 p x o) (hp : p = 113 ∨ p = 124) (g : zW n kd I Rf T) : zW n kd I1 Rf T := g.fr g.F rfl (fun c hc => h.2.2.1 c (by omega) (by omega)) (fun k hk => h.2.2.2 k (by omega))
def zpH (n : Nat) (sl : Nat × Nat) (kd : Nat → Nat × Nat) (I : Nat → Nat → Int32) (L : Nat → Nat → Int64) (Rf : Nat → Nat → Option Nat) (p : Nat) (x : Nat → Int32) (o : Int32) : Option Value → eb_S → Prop := fun r τ => r = none ∧ ∃ I1, τ = (n, sl, kd, I1, L, Rf) ∧ zhp I I1 p x o
theorem zpH_ok {n : Nat} {sl : Nat × Nat} {kd : Nat → Nat × Nat} {I : Nat → Nat → Int32} {L : Nat → Nat → Int64} {Rf : Nat → Nat → Option Nat} {p : Nat} {x : Nat → Int32} {o : Int32} {l : List (Nat × Value)} {rest : List Value} : ∀ r1 σ1, zpH n sl kd I L Rf p x o r1 σ1 → σ1.1 = n ∨ ((∀ q ∈ l, eb_okv n q.2) ∧ ∀ v ∈ rest, eb_okv n v) := fun _ _ h => Or.inl (by obtain ⟨_, I1, h, _⟩ := h; rw [h])
theorem z_row5 {I J : Nat → Nat → Int32} {p : Nat} {x y : Nat → Int32} (hx : ∀ k, k < 26 → I p k = x k) (h21 : J p 21 = y 21) (h22 : J p 22 = y 22) (h23 : J p 23 = y 23) (h24 : J p 24 = y 24) (h25 : J p 25 = y 25) (ho : ∀ k, k ≠ 21 → k ≠ 22 → k ≠ 23 → k ≠ 24 → k ≠ 25 → J p k = I p k) (hy : ∀ k, k ≠ 21 → k ≠ 22 → k ≠ 23 → k ≠ 24 → k ≠ 25 → y k = x k) : ∀ k, k < 26 → J p k = y k := by
  intro k hk
  by_cases e1 : k = 21
  · rw [e1]; exact h21
  · by_cases e2 : k = 22
    · rw [e2]; exact h22
    · by_cases e3 : k = 23
      · rw [e3]; exact h23
      · by_cases e4 : k = 24
        · rw [e4]; exact h24
        · by_cases e5 : k = 25
          · rw [e5]; exact h25
          · rw [ho k e1 e2 e3 e4 e5, hy k e1 e2 e3 e4 e5]; exact hx k hk
theorem zhg_le {T : zT} {w v : Int32} {x : Nat → Int32} {c H : Nat} (hx : zxr c H x) (hw : z_wr w) (hv : v = z_ab w * x 21 / 3 - z_ab (zhl T w x) / 2) (h : v ≤ 0) : zhg T w x = x 23 := by
  obtain ⟨k, hk, e2⟩ := hx.lg
  have e : v = z_ab (w * x 21) / 3 - z_ab (zhl T w x) / 2 := by
    obtain ⟨a, ha, rfl⟩ := hw
    obtain ⟨b, hb, e⟩ := hx.s
    rw [hv, e, z_ws_k a ha b hb]
  unfold zhg
  rw [← e, show z_mx v 0 = 0 from by
    unfold z_mx; split
    · rfl
    · exact Int32.le_antisymm h (Int32.not_lt.mp (by assumption)), Int32.add_zero, e2, show (9999 : Int32) = nI 9999 from rfl, z_mn_n (by omega) (by decide), Nat.min_eq_left (by omega)]
theorem zhg_gt {T : zT} {w v : Int32} {x : Nat → Int32} {c H : Nat} (hx : zxr c H x) (hw : z_wr w) (hv : v = z_ab w * x 21 / 3 - z_ab (zhl T w x) / 2) (h : ¬ v ≤ 0) : (if x 23 + v < 9999 then x 23 + v else 9999) = zhg T w x := by
  have e : v = z_ab (w * x 21) / 3 - z_ab (zhl T w x) / 2 := by
    obtain ⟨a, ha, rfl⟩ := hw
    obtain ⟨b, hb, e⟩ := hx.s
    rw [hv, e, z_ws_k a ha b hb]
  unfold zhg
  rw [← e, show z_mx v 0 = v from by unfold z_mx; rw [if_neg (fun g => h (Int32.le_of_lt g))], z_mn_c]
theorem y_X11_goHourBy_113 {n : Nat} {sl : Nat × Nat} {kd : Nat → Nat × Nat} {I : Nat → Nat → Int32} {L : Nat → Nat → Int64} {Rf : Nat → Nat → Option Nat} (d : Nat) {T : zT} (hW : zW n kd I Rf T) (hc7 : T.c ≤ 7) {H : Nat} {x : Nat → Int32} (hx : ∀ k, k < 26 → I 113 k = x k) (hxr : zxr T.c H x) (hH : H ≤ 2147483648) {wd : Int32} (hwr : z_wr wd)  : zq mX11_goHourBy (d + 309) [.ref 112, .ref 113, .int wd] (n, sl, kd, I, L, Rf) (zpH n sl kd I L Rf 113 (zh1 T wd x) (I 112 25 + zho T wd x)) := by
  intro f B
  refine ez_meth pn_X.2.2.2.2.2.2.2.2.2.2.2 (Nat.le_of_ble_eq_true rfl) ?_
  have hF := hW.F
  show ez_P _ _ _ _ _ _ 0 [(0, .ref 112), (1, .ref 113), (2, .int wd)] [] (n, sl, kd, I, L, Rf) _
  refine ez_aload_n (i := 0) dX11_goHourBy_0 rfl rfl ?_
  refine ez_aload_n (i := 1) dX11_goHourBy_1 rfl rfl ?_
  refine ez_iload_n (i := 2) dX11_goHourBy_2 rfl rfl ?_
  refine ez_callV (M1 := mX11_momentOf) (rest := []) dX11_goHourBy_3 mlX11_215 mvX11_momentOf rfl (hF.lt (by decide)) (hF.kc (by decide) rfl) (Nat.le_of_ble_eq_true rfl) rfl (y_X11_momentOf d hW hc7 (Or.inl rfl) hx hxr hH wd) eb_rok ?_
  rintro _ _ ⟨rfl, rfl⟩
  show ez_P _ _ _ _ _ _ 6 [(0, .ref 112), (1, .ref 113), (2, .int wd)] (.int (zsl T.rv T.pr T.c x (x 22) (x 25) T.c + 2 * wd * x 21) :: []) _ _
  refine ez_callS (M1 := mX11_pullBy) (rest := []) dX11_goHourBy_6 mlX11_218 msX11_pullBy rfl (Nat.le_of_ble_eq_true rfl) rfl (zq_r (q_X11_pullBy (d + 307) (zsl T.rv T.pr T.c x (x 22) (x 25) T.c + 2 * wd * x 21)) (n, sl, kd, I, L, Rf)) eb_rok ?_
  rintro _ _ ⟨rfl, rfl⟩
  show ez_P _ _ _ _ _ _ 9 [(0, .ref 112), (1, .ref 113), (2, .int wd)] (.int (z_pull (zsl T.rv T.pr T.c x (x 22) (x 25) T.c) wd (x 21)) :: []) _ _
  refine ez_aload_n (i := 1) dX11_goHourBy_9 rfl rfl ?_
  refine ez_bipush (v := 22) dX11_goHourBy_10 (by decide) ?_
  refine ez_iaN (k := 22) dX11_goHourBy_12 (hF.lt (by decide)) (hF.ka (by decide) rfl) (by omega) (by decide) ?_
  refine ez_topE (y := x 22) (hx _ (by omega)) ?_
  refine ez_isub dX11_goHourBy_13 ?_
  refine ez_topi (fun to hto => ?_)
  refine ez_istore_n (l' := [(3, .int to), (0, .ref 112), (1, .ref 113), (2, .int wd)]) dX11_goHourBy_14 rfl (by decide) rfl ?_
  have hzl : zhl T wd x = x 22 + (if to ≤ 0 then -(if to ≠ 0 then (if z_ab to < 6 then 1 else 2) else 0) else (if to ≠ 0 then (if z_ab to < 6 then 1 else 2) else 0)) := by unfold zhl; rw [← z_lr_lb hxr.l (z_pull_rg _ _ _), hto]; rfl
  refine ez_cut (pc2 := 58) (l2 := [(0, .ref 112), (1, .ref 113), (2, .int wd)]) (st2 := []) (σ2 := (n, sl, kd, z_set I 113 22 (zhl T wd x), L, Rf)) ?_ (fun hk => ?_)
  · refine ez_nmI (fun I0 hI0 => ?_)
    refine ez_iload_n (i := 2) dX11_goHourBy_58 rfl rfl ?_
    refine ez_abs dX11_goHourBy_59 xmX11_192 (Nat.le_of_ble_eq_true rfl) ?_
    refine ez_topE (y := z_ab wd) rfl ?_
    refine ez_aload_n (i := 1) dX11_goHourBy_62 rfl rfl ?_
    refine ez_bipush (v := 21) dX11_goHourBy_63 (by decide) ?_
    refine ez_iaN (k := 21) dX11_goHourBy_65 (hF.lt (by decide)) (hF.ka (by decide) rfl) (by omega) (by decide) ?_
    refine ez_topE (y := I 113 21) (by rw [hI0, z_set_nk (by decide)]) ?_
    refine ez_topE (y := x 21) (hx _ (by omega)) ?_
    refine ez_imul dX11_goHourBy_66 ?_
    refine ez_iconst (v := 3) dX11_goHourBy_67 (by decide) ?_
    refine ez_idiv dX11_goHourBy_68 (by decide) ?_
    refine ez_aload_n (i := 1) dX11_goHourBy_69 rfl rfl ?_
    refine ez_bipush (v := 22) dX11_goHourBy_70 (by decide) ?_
    refine ez_iaN (k := 22) dX11_goHourBy_72 (hF.lt (by decide)) (hF.ka (by decide) rfl) (by omega) (by decide) ?_
    refine ez_topE (y := zhl T wd x) (by rw [hI0, z_set_at]) ?_
    refine ez_abs dX11_goHourBy_73 xmX11_192 (Nat.le_of_ble_eq_true rfl) ?_
    refine ez_topE (y := z_ab (zhl T wd x)) rfl ?_
    refine ez_iconst (v := 2) dX11_goHourBy_76 (by decide) ?_
    refine ez_idiv dX11_goHourBy_77 (by decide) ?_
    refine ez_isub dX11_goHourBy_78 ?_
    refine ez_topi (fun v hv => ?_)
    refine ez_istore (l' := [(5, .int v), (0, .ref 112), (1, .ref 113), (2, .int wd)]) dX11_goHourBy_79 (by decide) rfl ?_
    refine ez_iload (i := 5) dX11_goHourBy_81 rfl ?_
    refine ez_if_le (tgt := 103) dX11_goHourBy_83 (by decide) (fun c1 => ?_) (fun c1 => ?_)
    · skip
      refine ez_aload_n (i := 1) dX11_goHourBy_103 rfl rfl ?_
      refine ez_bipush (v := 22) dX11_goHourBy_104 (by decide) ?_
      refine ez_iaN (k := 22) dX11_goHourBy_106 (hF.lt (by decide)) (hF.ka (by decide) rfl) (by omega) (by decide) ?_
      refine ez_topE (y := zhl T wd x) (by rw [hI0, z_set_at]) ?_
      refine ez_abs dX11_goHourBy_107 xmX11_192 (Nat.le_of_ble_eq_true rfl) ?_
      refine ez_topE (y := z_ab (zhl T wd x)) rfl ?_
      refine ez_bipush (v := 15) dX11_goHourBy_110 (by decide) ?_
      refine ez_icmp_lt (tgt := 146) dX11_goHourBy_112 (by decide) (fun c2 => ?_) (fun c2 => ?_)
      · skip
        refine ez_aload_n (i := 1) dX11_goHourBy_146 rfl rfl ?_
        refine ez_bipush (v := 25) dX11_goHourBy_147 (by decide) ?_
        refine ez_dup2 dX11_goHourBy_149 rfl rfl ?_
        refine ez_iaN (k := 25) dX11_goHourBy_150 (hF.lt (by decide)) (hF.ka (by decide) rfl) (by omega) (by decide) ?_
        refine ez_topE (y := I 113 25) (by rw [hI0, z_set_nk (by decide)]) ?_
        refine ez_topE (y := x 25) (hx _ (by omega)) ?_
        refine ez_iconst (v := 1) dX11_goHourBy_151 (by decide) ?_
        refine ez_iadd dX11_goHourBy_152 ?_
        refine ez_isN (k := 25) dX11_goHourBy_153 (hF.lt (by decide)) (hF.lx (by decide)) (hF.ka (by decide) rfl) (by omega) (by decide) ?_
        refine ez_nmI (fun I3 hI3 => ?_)
        refine ez_vret dX11_goHourBy_154 rfl ?_
        have hJ : ∀ c, c ≠ 113 → I3 c = I c := fun c g113 => by rw [hI3, z_set_ne (by omega), hI0, z_set_ne (by omega)]
        have hJf : ∀ k, I3 112 k = I 112 k := fun k => by rw [hI3, z_set_ne (by decide), hI0, z_set_ne (by decide)]
        have hR : ∀ k, k ≠ 21 → k ≠ 22 → k ≠ 23 → k ≠ 24 → k ≠ 25 → I3 113 k = I 113 k := fun k g21 g22 g23 g24 g25 => by rw [hI3, z_set_nk (by omega), hI0, z_set_nk (by omega)]
        have r21 : I3 113 21 = zh1 T wd x 21 := by rw [hI3, z_set_nk (by decide), hI0, z_set_nk (by decide), hx _ (by omega)]; rw [zh1_21, if_pos c2]
        have r22 : I3 113 22 = zh1 T wd x 22 := by rw [hI3, z_set_nk (by decide), hI0, z_set_at, zh1_22]
        have r23 : I3 113 23 = zh1 T wd x 23 := by rw [hI3, z_set_nk (by decide), hI0, z_set_nk (by decide), hx _ (by omega)]; rw [zh1_23, zhg_le hxr hwr hv c1]
        have r24 : I3 113 24 = zh1 T wd x 24 := by rw [hI3, z_set_nk (by decide), hI0, z_set_nk (by decide), hx _ (by omega)]; rw [zh1_24, if_pos c2]
        have r25 : I3 113 25 = zh1 T wd x 25 := by rw [hI3, z_set_at, zh1_25]
        have ro : I3 112 25 = I 112 25 + zho T wd x := by rw [hI3, z_set_ne (by decide), hI0, z_set_ne (by decide), zho, if_pos c2, Int32.add_zero]
        exact ⟨rfl, _, rfl, z_row5 hx r21 r22 r23 r24 r25 hR (fun k g1 g2 g3 g4 g5 => zh1_o g1 g2 g3 g4 g5), ro, fun c g1 g2 => hJ c g1, fun k g => hJf k⟩
      · skip
        refine ez_aload_n (i := 0) dX11_goHourBy_115 rfl rfl ?_
        refine ez_dup dX11_goHourBy_116 rfl ?_
        refine ez_getI dX11_goHourBy_117 flX11_235 (hF.lt (by decide)) (hF.kc (by decide) rfl) ?_
        refine ez_topE (y := I 112 25) (by rw [hI0, z_set_ne (by decide)]) ?_
        refine ez_iconst (v := 1) dX11_goHourBy_120 (by decide) ?_
        refine ez_iadd dX11_goHourBy_121 ?_
        refine ez_pI dX11_goHourBy_122 plX11_235 (hF.lt (by decide)) (hF.lx (by decide)) (hF.kc (by decide) rfl) rfl rfl ?_
        refine ez_nmI (fun I4 hI4 => ?_)
        refine ez_aload_n (i := 1) dX11_goHourBy_125 rfl rfl ?_
        refine ez_bipush (v := 24) dX11_goHourBy_126 (by decide) ?_
        refine ez_sipush (v := 999) dX11_goHourBy_128 (by decide) ?_
        refine ez_aload_n (i := 1) dX11_goHourBy_131 rfl rfl ?_
        refine ez_bipush (v := 24) dX11_goHourBy_132 (by decide) ?_
        refine ez_iaN (k := 24) dX11_goHourBy_134 (hF.lt (by decide)) (hF.ka (by decide) rfl) (by omega) (by decide) ?_
        refine ez_topE (y := I 113 24) (by rw [hI4, z_set_ne (by decide), hI0, z_set_nk (by decide)]) ?_
        refine ez_topE (y := x 24) (hx _ (by omega)) ?_
        refine ez_iconst (v := 1) dX11_goHourBy_135 (by decide) ?_
        refine ez_iadd dX11_goHourBy_136 ?_
        refine ez_min dX11_goHourBy_137 xmX11_197 (Nat.le_of_ble_eq_true rfl) ?_
        refine ez_isN (k := 24) dX11_goHourBy_140 (hF.lt (by decide)) (hF.lx (by decide)) (hF.ka (by decide) rfl) (by omega) (by decide) ?_
        refine ez_nmI (fun I5 hI5 => ?_)
        refine ez_aload_n (i := 1) dX11_goHourBy_141 rfl rfl ?_
        refine ez_bipush (v := 21) dX11_goHourBy_142 (by decide) ?_
        refine ez_iconst (v := 0) dX11_goHourBy_144 (by decide) ?_
        refine ez_isN (k := 21) dX11_goHourBy_145 (hF.lt (by decide)) (hF.lx (by decide)) (hF.ka (by decide) rfl) (by omega) (by decide) ?_
        refine ez_nmI (fun I6 hI6 => ?_)
        refine ez_aload_n (i := 1) dX11_goHourBy_146 rfl rfl ?_
        refine ez_bipush (v := 25) dX11_goHourBy_147 (by decide) ?_
        refine ez_dup2 dX11_goHourBy_149 rfl rfl ?_
        refine ez_iaN (k := 25) dX11_goHourBy_150 (hF.lt (by decide)) (hF.ka (by decide) rfl) (by omega) (by decide) ?_
        refine ez_topE (y := I 113 25) (by rw [hI6, z_set_nk (by decide), hI5, z_set_nk (by decide), hI4, z_set_ne (by decide), hI0, z_set_nk (by decide)]) ?_
        refine ez_topE (y := x 25) (hx _ (by omega)) ?_
        refine ez_iconst (v := 1) dX11_goHourBy_151 (by decide) ?_
        refine ez_iadd dX11_goHourBy_152 ?_
        refine ez_isN (k := 25) dX11_goHourBy_153 (hF.lt (by decide)) (hF.lx (by decide)) (hF.ka (by decide) rfl) (by omega) (by decide) ?_
        refine ez_nmI (fun I7 hI7 => ?_)
        refine ez_vret dX11_goHourBy_154 rfl ?_
        have hJ : ∀ c, c ≠ 112 → c ≠ 113 → I7 c = I c := fun c g112 g113 => by rw [hI7, z_set_ne (by omega), hI6, z_set_ne (by omega), hI5, z_set_ne (by omega), hI4, z_set_ne (by omega), hI0, z_set_ne (by omega)]
        have hJf : ∀ k, k ≠ 25 → I7 112 k = I 112 k := fun k g25 => by rw [hI7, z_set_ne (by decide), hI6, z_set_ne (by decide), hI5, z_set_ne (by decide), hI4, z_set_nk (by omega), hI0, z_set_ne (by decide)]
        have hR : ∀ k, k ≠ 21 → k ≠ 22 → k ≠ 23 → k ≠ 24 → k ≠ 25 → I7 113 k = I 113 k := fun k g21 g22 g23 g24 g25 => by rw [hI7, z_set_nk (by omega), hI6, z_set_nk (by omega), hI5, z_set_nk (by omega), hI4, z_set_ne (by decide), hI0, z_set_nk (by omega)]
        have r21 : I7 113 21 = zh1 T wd x 21 := by rw [hI7, z_set_nk (by decide), hI6, z_set_at]; rw [zh1_21, if_neg c2]
        have r22 : I7 113 22 = zh1 T wd x 22 := by rw [hI7, z_set_nk (by decide), hI6, z_set_nk (by decide), hI5, z_set_nk (by decide), hI4, z_set_ne (by decide), hI0, z_set_at, zh1_22]
        have r23 : I7 113 23 = zh1 T wd x 23 := by rw [hI7, z_set_nk (by decide), hI6, z_set_nk (by decide), hI5, z_set_nk (by decide), hI4, z_set_ne (by decide), hI0, z_set_nk (by decide), hx _ (by omega)]; rw [zh1_23, zhg_le hxr hwr hv c1]
        have r24 : I7 113 24 = zh1 T wd x 24 := by rw [hI7, z_set_nk (by decide), hI6, z_set_nk (by decide), hI5, z_set_at]; rw [zh1_24, if_neg c2, z_mn_c]
        have r25 : I7 113 25 = zh1 T wd x 25 := by rw [hI7, z_set_at, zh1_25]
        have ro : I7 112 25 = I 112 25 + zho T wd x := by rw [hI7, z_set_ne (by decide), hI6, z_set_ne (by decide), hI5, z_set_ne (by decide), hI4, z_set_at, zho, if_neg c2]
        exact ⟨rfl, _, rfl, z_row5 hx r21 r22 r23 r24 r25 hR (fun k g1 g2 g3 g4 g5 => zh1_o g1 g2 g3 g4 g5), ro, fun c g1 g2 => hJ c g2 g1, fun k g => hJf k g⟩
    · skip
      refine ez_aload_n (i := 1) dX11_goHourBy_86 rfl rfl ?_
      refine ez_bipush (v := 23) dX11_goHourBy_87 (by decide) ?_
      refine ez_sipush (v := 9999) dX11_goHourBy_89 (by decide) ?_
      refine ez_aload_n (i := 1) dX11_goHourBy_92 rfl rfl ?_
      refine ez_bipush (v := 23) dX11_goHourBy_93 (by decide) ?_
      refine ez_iaN (k := 23) dX11_goHourBy_95 (hF.lt (by decide)) (hF.ka (by decide) rfl) (by omega) (by decide) ?_
      refine ez_topE (y := I 113 23) (by rw [hI0, z_set_nk (by decide)]) ?_
      refine ez_topE (y := x 23) (hx _ (by omega)) ?_
      refine ez_iload (i := 5) dX11_goHourBy_96 rfl ?_
      refine ez_iadd dX11_goHourBy_98 ?_
      refine ez_min dX11_goHourBy_99 xmX11_197 (Nat.le_of_ble_eq_true rfl) ?_
      refine ez_isN (k := 23) dX11_goHourBy_102 (hF.lt (by decide)) (hF.lx (by decide)) (hF.ka (by decide) rfl) (by omega) (by decide) ?_
      refine ez_nmI (fun I8 hI8 => ?_)
      refine ez_aload_n (i := 1) dX11_goHourBy_103 rfl rfl ?_
      refine ez_bipush (v := 22) dX11_goHourBy_104 (by decide) ?_
      refine ez_iaN (k := 22) dX11_goHourBy_106 (hF.lt (by decide)) (hF.ka (by decide) rfl) (by omega) (by decide) ?_
      refine ez_topE (y := zhl T wd x) (by rw [hI8, z_set_nk (by decide), hI0, z_set_at]) ?_
      refine ez_abs dX11_goHourBy_107 xmX11_192 (Nat.le_of_ble_eq_true rfl) ?_
      refine ez_topE (y := z_ab (zhl T wd x)) rfl ?_
      refine ez_bipush (v := 15) dX11_goHourBy_110 (by decide) ?_
      refine ez_icmp_lt (tgt := 146) dX11_goHourBy_112 (by decide) (fun c9 => ?_) (fun c9 => ?_)
      · skip
        refine ez_aload_n (i := 1) dX11_goHourBy_146 rfl rfl ?_
        refine ez_bipush (v := 25) dX11_goHourBy_147 (by decide) ?_
        refine ez_dup2 dX11_goHourBy_149 rfl rfl ?_
        refine ez_iaN (k := 25) dX11_goHourBy_150 (hF.lt (by decide)) (hF.ka (by decide) rfl) (by omega) (by decide) ?_
        refine ez_topE (y := I 113 25) (by rw [hI8, z_set_nk (by decide), hI0, z_set_nk (by decide)]) ?_
        refine ez_topE (y := x 25) (hx _ (by omega)) ?_
        refine ez_iconst (v := 1) dX11_goHourBy_151 (by decide) ?_
        refine ez_iadd dX11_goHourBy_152 ?_
        refine ez_isN (k := 25) dX11_goHourBy_153 (hF.lt (by decide)) (hF.lx (by decide)) (hF.ka (by decide) rfl) (by omega) (by decide) ?_
        refine ez_nmI (fun I10 hI10 => ?_)
        refine ez_vret dX11_goHourBy_154 rfl ?_
        have hJ : ∀ c, c ≠ 113 → I10 c = I c := fun c g113 => by rw [hI10, z_set_ne (by omega), hI8, z_set_ne (by omega), hI0, z_set_ne (by omega)]
        have hJf : ∀ k, I10 112 k = I 112 k := fun k => by rw [hI10, z_set_ne (by decide), hI8, z_set_ne (by decide), hI0, z_set_ne (by decide)]
        have hR : ∀ k, k ≠ 21 → k ≠ 22 → k ≠ 23 → k ≠ 24 → k ≠ 25 → I10 113 k = I 113 k := fun k g21 g22 g23 g24 g25 => by rw [hI10, z_set_nk (by omega), hI8, z_set_nk (by omega), hI0, z_set_nk (by omega)]
        have r21 : I10 113 21 = zh1 T wd x 21 := by rw [hI10, z_set_nk (by decide), hI8, z_set_nk (by decide), hI0, z_set_nk (by decide), hx _ (by omega)]; rw [zh1_21, if_pos c9]
        have r22 : I10 113 22 = zh1 T wd x 22 := by rw [hI10, z_set_nk (by decide), hI8, z_set_nk (by decide), hI0, z_set_at, zh1_22]
        have r23 : I10 113 23 = zh1 T wd x 23 := by rw [hI10, z_set_nk (by decide), hI8, z_set_at]; rw [zh1_23, ← zhg_gt hxr hwr hv c1]
        have r24 : I10 113 24 = zh1 T wd x 24 := by rw [hI10, z_set_nk (by decide), hI8, z_set_nk (by decide), hI0, z_set_nk (by decide), hx _ (by omega)]; rw [zh1_24, if_pos c9]
        have r25 : I10 113 25 = zh1 T wd x 25 := by rw [hI10, z_set_at, zh1_25]
        have ro : I10 112 25 = I 112 25 + zho T wd x := by rw [hI10, z_set_ne (by decide), hI8, z_set_ne (by decide), hI0, z_set_ne (by decide), zho, if_pos c9, Int32.add_zero]
        exact ⟨rfl, _, rfl, z_row5 hx r21 r22 r23 r24 r25 hR (fun k g1 g2 g3 g4 g5 => zh1_o g1 g2 g3 g4 g5), ro, fun c g1 g2 => hJ c g1, fun k g => hJf k⟩
      · skip
        refine ez_aload_n (i := 0) dX11_goHourBy_115 rfl rfl ?_
        refine ez_dup dX11_goHourBy_116 rfl ?_
        refine ez_getI dX11_goHourBy_117 flX11_235 (hF.lt (by decide)) (hF.kc (by decide) rfl) ?_
        refine ez_topE (y := I 112 25) (by rw [hI8, z_set_ne (by decide), hI0, z_set_ne (by decide)]) ?_
        refine ez_iconst (v := 1) dX11_goHourBy_120 (by decide) ?_
        refine ez_iadd dX11_goHourBy_121 ?_
        refine ez_pI dX11_goHourBy_122 plX11_235 (hF.lt (by decide)) (hF.lx (by decide)) (hF.kc (by decide) rfl) rfl rfl ?_
        refine ez_nmI (fun I11 hI11 => ?_)
        refine ez_aload_n (i := 1) dX11_goHourBy_125 rfl rfl ?_
        refine ez_bipush (v := 24) dX11_goHourBy_126 (by decide) ?_
        refine ez_sipush (v := 999) dX11_goHourBy_128 (by decide) ?_
        refine ez_aload_n (i := 1) dX11_goHourBy_131 rfl rfl ?_
        refine ez_bipush (v := 24) dX11_goHourBy_132 (by decide) ?_
        refine ez_iaN (k := 24) dX11_goHourBy_134 (hF.lt (by decide)) (hF.ka (by decide) rfl) (by omega) (by decide) ?_
        refine ez_topE (y := I 113 24) (by rw [hI11, z_set_ne (by decide), hI8, z_set_nk (by decide), hI0, z_set_nk (by decide)]) ?_
        refine ez_topE (y := x 24) (hx _ (by omega)) ?_
        refine ez_iconst (v := 1) dX11_goHourBy_135 (by decide) ?_
        refine ez_iadd dX11_goHourBy_136 ?_
        refine ez_min dX11_goHourBy_137 xmX11_197 (Nat.le_of_ble_eq_true rfl) ?_
        refine ez_isN (k := 24) dX11_goHourBy_140 (hF.lt (by decide)) (hF.lx (by decide)) (hF.ka (by decide) rfl) (by omega) (by decide) ?_
        refine ez_nmI (fun I12 hI12 => ?_)
        refine ez_aload_n (i := 1) dX11_goHourBy_141 rfl rfl ?_
        refine ez_bipush (v := 21) dX11_goHourBy_142 (by decide) ?_
        refine ez_iconst (v := 0) dX11_goHourBy_144 (by decide) ?_
        refine ez_isN (k := 21) dX11_goHourBy_145 (hF.lt (by decide)) (hF.lx (by decide)) (hF.ka (by decide) rfl) (by omega) (by decide) ?_
        refine ez_nmI (fun I13 hI13 => ?_)
        refine ez_aload_n (i := 1) dX11_goHourBy_146 rfl rfl ?_
        refine ez_bipush (v := 25) dX11_goHourBy_147 (by decide) ?_
        refine ez_dup2 dX11_goHourBy_149 rfl rfl ?_
        refine ez_iaN (k := 25) dX11_goHourBy_150 (hF.lt (by decide)) (hF.ka (by decide) rfl) (by omega) (by decide) ?_
        refine ez_topE (y := I 113 25) (by rw [hI13, z_set_nk (by decide), hI12, z_set_nk (by decide), hI11, z_set_ne (by decide), hI8, z_set_nk (by decide), hI0, z_set_nk (by decide)]) ?_
        refine ez_topE (y := x 25) (hx _ (by omega)) ?_
        refine ez_iconst (v := 1) dX11_goHourBy_151 (by decide) ?_
        refine ez_iadd dX11_goHourBy_152 ?_
        refine ez_isN (k := 25) dX11_goHourBy_153 (hF.lt (by decide)) (hF.lx (by decide)) (hF.ka (by decide) rfl) (by omega) (by decide) ?_
        refine ez_nmI (fun I14 hI14 => ?_)
        refine ez_vret dX11_goHourBy_154 rfl ?_
        have hJ : ∀ c, c ≠ 112 → c ≠ 113 → I14 c = I c := fun c g112 g113 => by rw [hI14, z_set_ne (by omega), hI13, z_set_ne (by omega), hI12, z_set_ne (by omega), hI11, z_set_ne (by omega), hI8, z_set_ne (by omega), hI0, z_set_ne (by omega)]
        have hJf : ∀ k, k ≠ 25 → I14 112 k = I 112 k := fun k g25 => by rw [hI14, z_set_ne (by decide), hI13, z_set_ne (by decide), hI12, z_set_ne (by decide), hI11, z_set_nk (by omega), hI8, z_set_ne (by decide), hI0, z_set_ne (by decide)]
        have hR : ∀ k, k ≠ 21 → k ≠ 22 → k ≠ 23 → k ≠ 24 → k ≠ 25 → I14 113 k = I 113 k := fun k g21 g22 g23 g24 g25 => by rw [hI14, z_set_nk (by omega), hI13, z_set_nk (by omega), hI12, z_set_nk (by omega), hI11, z_set_ne (by decide), hI8, z_set_nk (by omega), hI0, z_set_nk (by omega)]
        have r21 : I14 113 21 = zh1 T wd x 21 := by rw [hI14, z_set_nk (by decide), hI13, z_set_at]; rw [zh1_21, if_neg c9]
        have r22 : I14 113 22 = zh1 T wd x 22 := by rw [hI14, z_set_nk (by decide), hI13, z_set_nk (by decide), hI12, z_set_nk (by decide), hI11, z_set_ne (by decide), hI8, z_set_nk (by decide), hI0, z_set_at, zh1_22]
        have r23 : I14 113 23 = zh1 T wd x 23 := by rw [hI14, z_set_nk (by decide), hI13, z_set_nk (by decide), hI12, z_set_nk (by decide), hI11, z_set_ne (by decide), hI8, z_set_at]; rw [zh1_23, ← zhg_gt hxr hwr hv c1]
        have r24 : I14 113 24 = zh1 T wd x 24 := by rw [hI14, z_set_nk (by decide), hI13, z_set_nk (by decide), hI12, z_set_at]; rw [zh1_24, if_neg c9, z_mn_c]
        have r25 : I14 113 25 = zh1 T wd x 25 := by rw [hI14, z_set_at, zh1_25]
        have ro : I14 112 25 = I 112 25 + zho T wd x := by rw [hI14, z_set_ne (by decide), hI13, z_set_ne (by decide), hI12, z_set_ne (by decide), hI11, z_set_at, zho, if_neg c9]
        exact ⟨rfl, _, rfl, z_row5 hx r21 r22 r23 r24 r25 hR (fun k g1 g2 g3 g4 g5 => zh1_o g1 g2 g3 g4 g5), ro, fun c g1 g2 => hJ c g2 g1, fun k g => hJf k g⟩
  · skip
    refine ez_iload_n (i := 3) dX11_goHourBy_15 rfl rfl ?_
    refine ez_if_ne (tgt := 23) dX11_goHourBy_16 (by decide) (fun c15 => ?_) (fun c15 => ?_)
    · skip
      refine ez_iload_n (i := 3) dX11_goHourBy_23 rfl rfl ?_
      refine ez_abs dX11_goHourBy_24 xmX11_192 (Nat.le_of_ble_eq_true rfl) ?_
      refine ez_topE (y := z_ab to) rfl ?_
      refine ez_bipush (v := 6) dX11_goHourBy_27 (by decide) ?_
      refine ez_icmp_lt (tgt := 36) dX11_goHourBy_29 (by decide) (fun c16 => ?_) (fun c16 => ?_)
      · skip
        refine ez_iconst (v := 1) dX11_goHourBy_36 (by decide) ?_
        refine ez_istore (l' := [(4, .int 1), (3, .int to), (0, .ref 112), (1, .ref 113), (2, .int wd)]) dX11_goHourBy_37 (by decide) rfl ?_
        refine ez_aload_n (i := 1) dX11_goHourBy_39 rfl rfl ?_
        refine ez_bipush (v := 22) dX11_goHourBy_40 (by decide) ?_
        refine ez_dup2 dX11_goHourBy_42 rfl rfl ?_
        refine ez_iaN (k := 22) dX11_goHourBy_43 (hF.lt (by decide)) (hF.ka (by decide) rfl) (by omega) (by decide) ?_
        refine ez_topE (y := x 22) (hx _ (by omega)) ?_
        refine ez_iload_n (i := 3) dX11_goHourBy_44 rfl rfl ?_
        refine ez_if_le (tgt := 53) dX11_goHourBy_45 (by decide) (fun c17 => ?_) (fun c17 => ?_)
        · skip
          refine ez_iload (i := 4) dX11_goHourBy_53 rfl ?_
          refine ez_ineg dX11_goHourBy_55 ?_
          refine ez_iadd dX11_goHourBy_56 ?_
          refine ez_isN (k := 22) dX11_goHourBy_57 (hF.lt (by decide)) (hF.lx (by decide)) (hF.ka (by decide) rfl) (by omega) (by decide) ?_
          refine ez_nmI (fun I18 hI18 => ?_)
          refine ez_sub (l' := [(0, .ref 112), (1, .ref 113), (2, .int wd)]) [2, 3, 4] rfl ?_
          refine ez_eq (σ2 := (n, sl, kd, z_set I 113 22 (zhl T wd x), L, Rf)) rfl rfl rfl (by rw [hI18, hzl, if_pos c17, if_pos c15, if_pos c16]) hk
        · skip
          refine ez_iload (i := 4) dX11_goHourBy_48 rfl ?_
          refine ez_goto (tgt := 56) dX11_goHourBy_50 (by decide) ?_
          refine ez_iadd dX11_goHourBy_56 ?_
          refine ez_isN (k := 22) dX11_goHourBy_57 (hF.lt (by decide)) (hF.lx (by decide)) (hF.ka (by decide) rfl) (by omega) (by decide) ?_
          refine ez_nmI (fun I19 hI19 => ?_)
          refine ez_sub (l' := [(0, .ref 112), (1, .ref 113), (2, .int wd)]) [2, 3, 4] rfl ?_
          refine ez_eq (σ2 := (n, sl, kd, z_set I 113 22 (zhl T wd x), L, Rf)) rfl rfl rfl (by rw [hI19, hzl, if_neg c17, if_pos c15, if_pos c16]) hk
      · skip
        refine ez_iconst (v := 2) dX11_goHourBy_32 (by decide) ?_
        refine ez_goto (tgt := 37) dX11_goHourBy_33 (by decide) ?_
        refine ez_istore (l' := [(4, .int 2), (3, .int to), (0, .ref 112), (1, .ref 113), (2, .int wd)]) dX11_goHourBy_37 (by decide) rfl ?_
        refine ez_aload_n (i := 1) dX11_goHourBy_39 rfl rfl ?_
        refine ez_bipush (v := 22) dX11_goHourBy_40 (by decide) ?_
        refine ez_dup2 dX11_goHourBy_42 rfl rfl ?_
        refine ez_iaN (k := 22) dX11_goHourBy_43 (hF.lt (by decide)) (hF.ka (by decide) rfl) (by omega) (by decide) ?_
        refine ez_topE (y := x 22) (hx _ (by omega)) ?_
        refine ez_iload_n (i := 3) dX11_goHourBy_44 rfl rfl ?_
        refine ez_if_le (tgt := 53) dX11_goHourBy_45 (by decide) (fun c20 => ?_) (fun c20 => ?_)
        · skip
          refine ez_iload (i := 4) dX11_goHourBy_53 rfl ?_
          refine ez_ineg dX11_goHourBy_55 ?_
          refine ez_iadd dX11_goHourBy_56 ?_
          refine ez_isN (k := 22) dX11_goHourBy_57 (hF.lt (by decide)) (hF.lx (by decide)) (hF.ka (by decide) rfl) (by omega) (by decide) ?_
          refine ez_nmI (fun I21 hI21 => ?_)
          refine ez_sub (l' := [(0, .ref 112), (1, .ref 113), (2, .int wd)]) [2, 3, 4] rfl ?_
          refine ez_eq (σ2 := (n, sl, kd, z_set I 113 22 (zhl T wd x), L, Rf)) rfl rfl rfl (by rw [hI21, hzl, if_pos c20, if_pos c15, if_neg c16]) hk
        · skip
          refine ez_iload (i := 4) dX11_goHourBy_48 rfl ?_
          refine ez_goto (tgt := 56) dX11_goHourBy_50 (by decide) ?_
          refine ez_iadd dX11_goHourBy_56 ?_
          refine ez_isN (k := 22) dX11_goHourBy_57 (hF.lt (by decide)) (hF.lx (by decide)) (hF.ka (by decide) rfl) (by omega) (by decide) ?_
          refine ez_nmI (fun I22 hI22 => ?_)
          refine ez_sub (l' := [(0, .ref 112), (1, .ref 113), (2, .int wd)]) [2, 3, 4] rfl ?_
          refine ez_eq (σ2 := (n, sl, kd, z_set I 113 22 (zhl T wd x), L, Rf)) rfl rfl rfl (by rw [hI22, hzl, if_neg c20, if_pos c15, if_neg c16]) hk
    · skip
      refine ez_iconst (v := 0) dX11_goHourBy_19 (by decide) ?_
      refine ez_goto (tgt := 37) dX11_goHourBy_20 (by decide) ?_
      refine ez_istore (l' := [(4, .int 0), (3, .int to), (0, .ref 112), (1, .ref 113), (2, .int wd)]) dX11_goHourBy_37 (by decide) rfl ?_
      refine ez_aload_n (i := 1) dX11_goHourBy_39 rfl rfl ?_
      refine ez_bipush (v := 22) dX11_goHourBy_40 (by decide) ?_
      refine ez_dup2 dX11_goHourBy_42 rfl rfl ?_
      refine ez_iaN (k := 22) dX11_goHourBy_43 (hF.lt (by decide)) (hF.ka (by decide) rfl) (by omega) (by decide) ?_
      refine ez_topE (y := x 22) (hx _ (by omega)) ?_
      refine ez_iload_n (i := 3) dX11_goHourBy_44 rfl rfl ?_
      refine ez_if_le (tgt := 53) dX11_goHourBy_45 (by decide) (fun c23 => ?_) (fun c23 => ?_)
      · skip
        refine ez_iload (i := 4) dX11_goHourBy_53 rfl ?_
        refine ez_ineg dX11_goHourBy_55 ?_
        refine ez_iadd dX11_goHourBy_56 ?_
        refine ez_isN (k := 22) dX11_goHourBy_57 (hF.lt (by decide)) (hF.lx (by decide)) (hF.ka (by decide) rfl) (by omega) (by decide) ?_
        refine ez_nmI (fun I24 hI24 => ?_)
        refine ez_sub (l' := [(0, .ref 112), (1, .ref 113), (2, .int wd)]) [2, 3, 4] rfl ?_
        refine ez_eq (σ2 := (n, sl, kd, z_set I 113 22 (zhl T wd x), L, Rf)) rfl rfl rfl (by rw [hI24, hzl, if_pos c23, if_neg c15]) hk
      · skip
        refine ez_iload (i := 4) dX11_goHourBy_48 rfl ?_
        refine ez_goto (tgt := 56) dX11_goHourBy_50 (by decide) ?_
        refine ez_iadd dX11_goHourBy_56 ?_
        refine ez_isN (k := 22) dX11_goHourBy_57 (hF.lt (by decide)) (hF.lx (by decide)) (hF.ka (by decide) rfl) (by omega) (by decide) ?_
        refine ez_nmI (fun I25 hI25 => ?_)
        refine ez_sub (l' := [(0, .ref 112), (1, .ref 113), (2, .int wd)]) [2, 3, 4] rfl ?_
        refine ez_eq (σ2 := (n, sl, kd, z_set I 113 22 (zhl T wd x), L, Rf)) rfl rfl rfl (by rw [hI25, hzl, if_neg c23, if_neg c15]) hk
theorem y_X11_goHourBy_124 {n : Nat} {sl : Nat × Nat} {kd : Nat → Nat × Nat} {I : Nat → Nat → Int32} {L : Nat → Nat → Int64} {Rf : Nat → Nat → Option Nat} (d : Nat) {T : zT} (hW : zW n kd I Rf T) (hc7 : T.c ≤ 7) {H : Nat} {x : Nat → Int32} (hx : ∀ k, k < 26 → I 124 k = x k) (hxr : zxr T.c H x) (hH : H ≤ 2147483648) {wd : Int32} (hwr : z_wr wd)  : zq mX11_goHourBy (d + 309) [.ref 112, .ref 124, .int wd] (n, sl, kd, I, L, Rf) (zpH n sl kd I L Rf 124 (zh1 T wd x) (I 112 25 + zho T wd x)) := by
  intro f B
  refine ez_meth pn_X.2.2.2.2.2.2.2.2.2.2.2 (Nat.le_of_ble_eq_true rfl) ?_
  have hF := hW.F
  show ez_P _ _ _ _ _ _ 0 [(0, .ref 112), (1, .ref 124), (2, .int wd)] [] (n, sl, kd, I, L, Rf) _
  refine ez_aload_n (i := 0) dX11_goHourBy_0 rfl rfl ?_
  refine ez_aload_n (i := 1) dX11_goHourBy_1 rfl rfl ?_
  refine ez_iload_n (i := 2) dX11_goHourBy_2 rfl rfl ?_
  refine ez_callV (M1 := mX11_momentOf) (rest := []) dX11_goHourBy_3 mlX11_215 mvX11_momentOf rfl (hF.lt (by decide)) (hF.kc (by decide) rfl) (Nat.le_of_ble_eq_true rfl) rfl (y_X11_momentOf d hW hc7 (Or.inr rfl) hx hxr hH wd) eb_rok ?_
  rintro _ _ ⟨rfl, rfl⟩
  show ez_P _ _ _ _ _ _ 6 [(0, .ref 112), (1, .ref 124), (2, .int wd)] (.int (zsl T.rv T.pr T.c x (x 22) (x 25) T.c + 2 * wd * x 21) :: []) _ _
  refine ez_callS (M1 := mX11_pullBy) (rest := []) dX11_goHourBy_6 mlX11_218 msX11_pullBy rfl (Nat.le_of_ble_eq_true rfl) rfl (zq_r (q_X11_pullBy (d + 307) (zsl T.rv T.pr T.c x (x 22) (x 25) T.c + 2 * wd * x 21)) (n, sl, kd, I, L, Rf)) eb_rok ?_
  rintro _ _ ⟨rfl, rfl⟩
  show ez_P _ _ _ _ _ _ 9 [(0, .ref 112), (1, .ref 124), (2, .int wd)] (.int (z_pull (zsl T.rv T.pr T.c x (x 22) (x 25) T.c) wd (x 21)) :: []) _ _
  refine ez_aload_n (i := 1) dX11_goHourBy_9 rfl rfl ?_
  refine ez_bipush (v := 22) dX11_goHourBy_10 (by decide) ?_
  refine ez_iaN (k := 22) dX11_goHourBy_12 (hF.lt (by decide)) (hF.ka (by decide) rfl) (by omega) (by decide) ?_
  refine ez_topE (y := x 22) (hx _ (by omega)) ?_
  refine ez_isub dX11_goHourBy_13 ?_
  refine ez_topi (fun to hto => ?_)
  refine ez_istore_n (l' := [(3, .int to), (0, .ref 112), (1, .ref 124), (2, .int wd)]) dX11_goHourBy_14 rfl (by decide) rfl ?_
  have hzl : zhl T wd x = x 22 + (if to ≤ 0 then -(if to ≠ 0 then (if z_ab to < 6 then 1 else 2) else 0) else (if to ≠ 0 then (if z_ab to < 6 then 1 else 2) else 0)) := by unfold zhl; rw [← z_lr_lb hxr.l (z_pull_rg _ _ _), hto]; rfl
  refine ez_cut (pc2 := 58) (l2 := [(0, .ref 112), (1, .ref 124), (2, .int wd)]) (st2 := []) (σ2 := (n, sl, kd, z_set I 124 22 (zhl T wd x), L, Rf)) ?_ (fun hk => ?_)
  · refine ez_nmI (fun I0 hI0 => ?_)
    refine ez_iload_n (i := 2) dX11_goHourBy_58 rfl rfl ?_
    refine ez_abs dX11_goHourBy_59 xmX11_192 (Nat.le_of_ble_eq_true rfl) ?_
    refine ez_topE (y := z_ab wd) rfl ?_
    refine ez_aload_n (i := 1) dX11_goHourBy_62 rfl rfl ?_
    refine ez_bipush (v := 21) dX11_goHourBy_63 (by decide) ?_
    refine ez_iaN (k := 21) dX11_goHourBy_65 (hF.lt (by decide)) (hF.ka (by decide) rfl) (by omega) (by decide) ?_
    refine ez_topE (y := I 124 21) (by rw [hI0, z_set_nk (by decide)]) ?_
    refine ez_topE (y := x 21) (hx _ (by omega)) ?_
    refine ez_imul dX11_goHourBy_66 ?_
    refine ez_iconst (v := 3) dX11_goHourBy_67 (by decide) ?_
    refine ez_idiv dX11_goHourBy_68 (by decide) ?_
    refine ez_aload_n (i := 1) dX11_goHourBy_69 rfl rfl ?_
    refine ez_bipush (v := 22) dX11_goHourBy_70 (by decide) ?_
    refine ez_iaN (k := 22) dX11_goHourBy_72 (hF.lt (by decide)) (hF.ka (by decide) rfl) (by omega) (by decide) ?_
    refine ez_topE (y := zhl T wd x) (by rw [hI0, z_set_at]) ?_
    refine ez_abs dX11_goHourBy_73 xmX11_192 (Nat.le_of_ble_eq_true rfl) ?_
    refine ez_topE (y := z_ab (zhl T wd x)) rfl ?_
    refine ez_iconst (v := 2) dX11_goHourBy_76 (by decide) ?_
    refine ez_idiv dX11_goHourBy_77 (by decide) ?_
    refine ez_isub dX11_goHourBy_78 ?_
    refine ez_topi (fun v hv => ?_)
    refine ez_istore (l' := [(5, .int v), (0, .ref 112), (1, .ref 124), (2, .int wd)]) dX11_goHourBy_79 (by decide) rfl ?_
    refine ez_iload (i := 5) dX11_goHourBy_81 rfl ?_
    refine ez_if_le (tgt := 103) dX11_goHourBy_83 (by decide) (fun c1 => ?_) (fun c1 => ?_)
    · skip
      refine ez_aload_n (i := 1) dX11_goHourBy_103 rfl rfl ?_
      refine ez_bipush (v := 22) dX11_goHourBy_104 (by decide) ?_
      refine ez_iaN (k := 22) dX11_goHourBy_106 (hF.lt (by decide)) (hF.ka (by decide) rfl) (by omega) (by decide) ?_
      refine ez_topE (y := zhl T wd x) (by rw [hI0, z_set_at]) ?_
      refine ez_abs dX11_goHourBy_107 xmX11_192 (Nat.le_of_ble_eq_true rfl) ?_
      refine ez_topE (y := z_ab (zhl T wd x)) rfl ?_
      refine ez_bipush (v := 15) dX11_goHourBy_110 (by decide) ?_
      refine ez_icmp_lt (tgt := 146) dX11_goHourBy_112 (by decide) (fun c2 => ?_) (fun c2 => ?_)
      · skip
        refine ez_aload_n (i := 1) dX11_goHourBy_146 rfl rfl ?_
        refine ez_bipush (v := 25) dX11_goHourBy_147 (by decide) ?_
        refine ez_dup2 dX11_goHourBy_149 rfl rfl ?_
        refine ez_iaN (k := 25) dX11_goHourBy_150 (hF.lt (by decide)) (hF.ka (by decide) rfl) (by omega) (by decide) ?_
        refine ez_topE (y := I 124 25) (by rw [hI0, z_set_nk (by decide)]) ?_
        refine ez_topE (y := x 25) (hx _ (by omega)) ?_
        refine ez_iconst (v := 1) dX11_goHourBy_151 (by decide) ?_
        refine ez_iadd dX11_goHourBy_152 ?_
        refine ez_isN (k := 25) dX11_goHourBy_153 (hF.lt (by decide)) (hF.lx (by decide)) (hF.ka (by decide) rfl) (by omega) (by decide) ?_
        refine ez_nmI (fun I3 hI3 => ?_)
        refine ez_vret dX11_goHourBy_154 rfl ?_
        have hJ : ∀ c, c ≠ 124 → I3 c = I c := fun c g124 => by rw [hI3, z_set_ne (by omega), hI0, z_set_ne (by omega)]
        have hJf : ∀ k, I3 112 k = I 112 k := fun k => by rw [hI3, z_set_ne (by decide), hI0, z_set_ne (by decide)]
        have hR : ∀ k, k ≠ 21 → k ≠ 22 → k ≠ 23 → k ≠ 24 → k ≠ 25 → I3 124 k = I 124 k := fun k g21 g22 g23 g24 g25 => by rw [hI3, z_set_nk (by omega), hI0, z_set_nk (by omega)]
        have r21 : I3 124 21 = zh1 T wd x 21 := by rw [hI3, z_set_nk (by decide), hI0, z_set_nk (by decide), hx _ (by omega)]; rw [zh1_21, if_pos c2]
        have r22 : I3 124 22 = zh1 T wd x 22 := by rw [hI3, z_set_nk (by decide), hI0, z_set_at, zh1_22]
        have r23 : I3 124 23 = zh1 T wd x 23 := by rw [hI3, z_set_nk (by decide), hI0, z_set_nk (by decide), hx _ (by omega)]; rw [zh1_23, zhg_le hxr hwr hv c1]
        have r24 : I3 124 24 = zh1 T wd x 24 := by rw [hI3, z_set_nk (by decide), hI0, z_set_nk (by decide), hx _ (by omega)]; rw [zh1_24, if_pos c2]
        have r25 : I3 124 25 = zh1 T wd x 25 := by rw [hI3, z_set_at, zh1_25]
        have ro : I3 112 25 = I 112 25 + zho T wd x := by rw [hI3, z_set_ne (by decide), hI0, z_set_ne (by decide), zho, if_pos c2, Int32.add_zero]
        exact ⟨rfl, _, rfl, z_row5 hx r21 r22 r23 r24 r25 hR (fun k g1 g2 g3 g4 g5 => zh1_o g1 g2 g3 g4 g5), ro, fun c g1 g2 => hJ c g1, fun k g => hJf k⟩
      · skip
        refine ez_aload_n (i := 0) dX11_goHourBy_115 rfl rfl ?_
        refine ez_dup dX11_goHourBy_116 rfl ?_
        refine ez_getI dX11_goHourBy_117 flX11_235 (hF.lt (by decide)) (hF.kc (by decide) rfl) ?_
        refine ez_topE (y := I 112 25) (by rw [hI0, z_set_ne (by decide)]) ?_
        refine ez_iconst (v := 1) dX11_goHourBy_120 (by decide) ?_
        refine ez_iadd dX11_goHourBy_121 ?_
        refine ez_pI dX11_goHourBy_122 plX11_235 (hF.lt (by decide)) (hF.lx (by decide)) (hF.kc (by decide) rfl) rfl rfl ?_
        refine ez_nmI (fun I4 hI4 => ?_)
        refine ez_aload_n (i := 1) dX11_goHourBy_125 rfl rfl ?_
        refine ez_bipush (v := 24) dX11_goHourBy_126 (by decide) ?_
        refine ez_sipush (v := 999) dX11_goHourBy_128 (by decide) ?_
        refine ez_aload_n (i := 1) dX11_goHourBy_131 rfl rfl ?_
        refine ez_bipush (v := 24) dX11_goHourBy_132 (by decide) ?_
        refine ez_iaN (k := 24) dX11_goHourBy_134 (hF.lt (by decide)) (hF.ka (by decide) rfl) (by omega) (by decide) ?_
        refine ez_topE (y := I 124 24) (by rw [hI4, z_set_ne (by decide), hI0, z_set_nk (by decide)]) ?_
        refine ez_topE (y := x 24) (hx _ (by omega)) ?_
        refine ez_iconst (v := 1) dX11_goHourBy_135 (by decide) ?_
        refine ez_iadd dX11_goHourBy_136 ?_
        refine ez_min dX11_goHourBy_137 xmX11_197 (Nat.le_of_ble_eq_true rfl) ?_
        refine ez_isN (k := 24) dX11_goHourBy_140 (hF.lt (by decide)) (hF.lx (by decide)) (hF.ka (by decide) rfl) (by omega) (by decide) ?_
        refine ez_nmI (fun I5 hI5 => ?_)
        refine ez_aload_n (i := 1) dX11_goHourBy_141 rfl rfl ?_
        refine ez_bipush (v := 21) dX11_goHourBy_142 (by decide) ?_
        refine ez_iconst (v := 0) dX11_goHourBy_144 (by decide) ?_
        refine ez_isN (k := 21) dX11_goHourBy_145 (hF.lt (by decide)) (hF.lx (by decide)) (hF.ka (by decide) rfl) (by omega) (by decide) ?_
        refine ez_nmI (fun I6 hI6 => ?_)
        refine ez_aload_n (i := 1) dX11_goHourBy_146 rfl rfl ?_
        refine ez_bipush (v := 25) dX11_goHourBy_147 (by decide) ?_
        refine ez_dup2 dX11_goHourBy_149 rfl rfl ?_
        refine ez_iaN (k := 25) dX11_goHourBy_150 (hF.lt (by decide)) (hF.ka (by decide) rfl) (by omega) (by decide) ?_
        refine ez_topE (y := I 124 25) (by rw [hI6, z_set_nk (by decide), hI5, z_set_nk (by decide), hI4, z_set_ne (by decide), hI0, z_set_nk (by decide)]) ?_
        refine ez_topE (y := x 25) (hx _ (by omega)) ?_
        refine ez_iconst (v := 1) dX11_goHourBy_151 (by decide) ?_
        refine ez_iadd dX11_goHourBy_152 ?_
        refine ez_isN (k := 25) dX11_goHourBy_153 (hF.lt (by decide)) (hF.lx (by decide)) (hF.ka (by decide) rfl) (by omega) (by decide) ?_
        refine ez_nmI (fun I7 hI7 => ?_)
        refine ez_vret dX11_goHourBy_154 rfl ?_
        have hJ : ∀ c, c ≠ 112 → c ≠ 124 → I7 c = I c := fun c g112 g124 => by rw [hI7, z_set_ne (by omega), hI6, z_set_ne (by omega), hI5, z_set_ne (by omega), hI4, z_set_ne (by omega), hI0, z_set_ne (by omega)]
        have hJf : ∀ k, k ≠ 25 → I7 112 k = I 112 k := fun k g25 => by rw [hI7, z_set_ne (by decide), hI6, z_set_ne (by decide), hI5, z_set_ne (by decide), hI4, z_set_nk (by omega), hI0, z_set_ne (by decide)]
        have hR : ∀ k, k ≠ 21 → k ≠ 22 → k ≠ 23 → k ≠ 24 → k ≠ 25 → I7 124 k = I 124 k := fun k g21 g22 g23 g24 g25 => by rw [hI7, z_set_nk (by omega), hI6, z_set_nk (by omega), hI5, z_set_nk (by omega), hI4, z_set_ne (by decide), hI0, z_set_nk (by omega)]
        have r21 : I7 124 21 = zh1 T wd x 21 := by rw [hI7, z_set_nk (by decide), hI6, z_set_at]; rw [zh1_21, if_neg c2]
        have r22 : I7 124 22 = zh1 T wd x 22 := by rw [hI7, z_set_nk (by decide), hI6, z_set_nk (by decide), hI5, z_set_nk (by decide), hI4, z_set_ne (by decide), hI0, z_set_at, zh1_22]
        have r23 : I7 124 23 = zh1 T wd x 23 := by rw [hI7, z_set_nk (by decide), hI6, z_set_nk (by decide), hI5, z_set_nk (by decide), hI4, z_set_ne (by decide), hI0, z_set_nk (by decide), hx _ (by omega)]; rw [zh1_23, zhg_le hxr hwr hv c1]
        have r24 : I7 124 24 = zh1 T wd x 24 := by rw [hI7, z_set_nk (by decide), hI6, z_set_nk (by decide), hI5, z_set_at]; rw [zh1_24, if_neg c2, z_mn_c]
        have r25 : I7 124 25 = zh1 T wd x 25 := by rw [hI7, z_set_at, zh1_25]
        have ro : I7 112 25 = I 112 25 + zho T wd x := by rw [hI7, z_set_ne (by decide), hI6, z_set_ne (by decide), hI5, z_set_ne (by decide), hI4, z_set_at, zho, if_neg c2]
        exact ⟨rfl, _, rfl, z_row5 hx r21 r22 r23 r24 r25 hR (fun k g1 g2 g3 g4 g5 => zh1_o g1 g2 g3 g4 g5), ro, fun c g1 g2 => hJ c g2 g1, fun k g => hJf k g⟩
    · skip
      refine ez_aload_n (i := 1) dX11_goHourBy_86 rfl rfl ?_
      refine ez_bipush (v := 23) dX11_goHourBy_87 (by decide) ?_
      refine ez_sipush (v := 9999) dX11_goHourBy_89 (by decide) ?_
      refine ez_aload_n (i := 1) dX11_goHourBy_92 rfl rfl ?_
      refine ez_bipush (v := 23) dX11_goHourBy_93 (by decide) ?_
      refine ez_iaN (k := 23) dX11_goHourBy_95 (hF.lt (by decide)) (hF.ka (by decide) rfl) (by omega) (by decide) ?_
      refine ez_topE (y := I 124 23) (by rw [hI0, z_set_nk (by decide)]) ?_
      refine ez_topE (y := x 23) (hx _ (by omega)) ?_
      refine ez_iload (i := 5) dX11_goHourBy_96 rfl ?_
      refine ez_iadd dX11_goHourBy_98 ?_
      refine ez_min dX11_goHourBy_99 xmX11_197 (Nat.le_of_ble_eq_true rfl) ?_
      refine ez_isN (k := 23) dX11_goHourBy_102 (hF.lt (by decide)) (hF.lx (by decide)) (hF.ka (by decide) rfl) (by omega) (by decide) ?_
      refine ez_nmI (fun I8 hI8 => ?_)
      refine ez_aload_n (i := 1) dX11_goHourBy_103 rfl rfl ?_
      refine ez_bipush (v := 22) dX11_goHourBy_104 (by decide) ?_
      refine ez_iaN (k := 22) dX11_goHourBy_106 (hF.lt (by decide)) (hF.ka (by decide) rfl) (by omega) (by decide) ?_
      refine ez_topE (y := zhl T wd x) (by rw [hI8, z_set_nk (by decide), hI0, z_set_at]) ?_
      refine ez_abs dX11_goHourBy_107 xmX11_192 (Nat.le_of_ble_eq_true rfl) ?_
      refine ez_topE (y := z_ab (zhl T wd x)) rfl ?_
      refine ez_bipush (v := 15) dX11_goHourBy_110 (by decide) ?_
      refine ez_icmp_lt (tgt := 146) dX11_goHourBy_112 (by decide) (fun c9 => ?_) (fun c9 => ?_)
      · skip
        refine ez_aload_n (i := 1) dX11_goHourBy_146 rfl rfl ?_
        refine ez_bipush (v := 25) dX11_goHourBy_147 (by decide) ?_
        refine ez_dup2 dX11_goHourBy_149 rfl rfl ?_
        refine ez_iaN (k := 25) dX11_goHourBy_150 (hF.lt (by decide)) (hF.ka (by decide) rfl) (by omega) (by decide) ?_
        refine ez_topE (y := I 124 25) (by rw [hI8, z_set_nk (by decide), hI0, z_set_nk (by decide)]) ?_
        refine ez_topE (y := x 25) (hx _ (by omega)) ?_
        refine ez_iconst (v := 1) dX11_goHourBy_151 (by decide) ?_
        refine ez_iadd dX11_goHourBy_152 ?_
        refine ez_isN (k := 25) dX11_goHourBy_153 (hF.lt (by decide)) (hF.lx (by decide)) (hF.ka (by decide) rfl) (by omega) (by decide) ?_
        refine ez_nmI (fun I10 hI10 => ?_)
        refine ez_vret dX11_goHourBy_154 rfl ?_
        have hJ : ∀ c, c ≠ 124 → I10 c = I c := fun c g124 => by rw [hI10, z_set_ne (by omega), hI8, z_set_ne (by omega), hI0, z_set_ne (by omega)]
        have hJf : ∀ k, I10 112 k = I 112 k := fun k => by rw [hI10, z_set_ne (by decide), hI8, z_set_ne (by decide), hI0, z_set_ne (by decide)]
        have hR : ∀ k, k ≠ 21 → k ≠ 22 → k ≠ 23 → k ≠ 24 → k ≠ 25 → I10 124 k = I 124 k := fun k g21 g22 g23 g24 g25 => by rw [hI10, z_set_nk (by omega), hI8, z_set_nk (by omega), hI0, z_set_nk (by omega)]
        have r21 : I10 124 21 = zh1 T wd x 21 := by rw [hI10, z_set_nk (by decide), hI8, z_set_nk (by decide), hI0, z_set_nk (by decide), hx _ (by omega)]; rw [zh1_21, if_pos c9]
        have r22 : I10 124 22 = zh1 T wd x 22 := by rw [hI10, z_set_nk (by decide), hI8, z_set_nk (by decide), hI0, z_set_at, zh1_22]
        have r23 : I10 124 23 = zh1 T wd x 23 := by rw [hI10, z_set_nk (by decide), hI8, z_set_at]; rw [zh1_23, ← zhg_gt hxr hwr hv c1]
        have r24 : I10 124 24 = zh1 T wd x 24 := by rw [hI10, z_set_nk (by decide), hI8, z_set_nk (by decide), hI0, z_set_nk (by decide), hx _ (by omega)]; rw [zh1_24, if_pos c9]
        have r25 : I10 124 25 = zh1 T wd x 25 := by rw [hI10, z_set_at, zh1_25]
        have ro : I10 112 25 = I 112 25 + zho T wd x := by rw [hI10, z_set_ne (by decide), hI8, z_set_ne (by decide), hI0, z_set_ne (by decide), zho, if_pos c9, Int32.add_zero]
        exact ⟨rfl, _, rfl, z_row5 hx r21 r22 r23 r24 r25 hR (fun k g1 g2 g3 g4 g5 => zh1_o g1 g2 g3 g4 g5), ro, fun c g1 g2 => hJ c g1, fun k g => hJf k⟩
      · skip
        refine ez_aload_n (i := 0) dX11_goHourBy_115 rfl rfl ?_
        refine ez_dup dX11_goHourBy_116 rfl ?_
        refine ez_getI dX11_goHourBy_117 flX11_235 (hF.lt (by decide)) (hF.kc (by decide) rfl) ?_
        refine ez_topE (y := I 112 25) (by rw [hI8, z_set_ne (by decide), hI0, z_set_ne (by decide)]) ?_
        refine ez_iconst (v := 1) dX11_goHourBy_120 (by decide) ?_
        refine ez_iadd dX11_goHourBy_121 ?_
        refine ez_pI dX11_goHourBy_122 plX11_235 (hF.lt (by decide)) (hF.lx (by decide)) (hF.kc (by decide) rfl) rfl rfl ?_
        refine ez_nmI (fun I11 hI11 => ?_)
        refine ez_aload_n (i := 1) dX11_goHourBy_125 rfl rfl ?_
        refine ez_bipush (v := 24) dX11_goHourBy_126 (by decide) ?_
        refine ez_sipush (v := 999) dX11_goHourBy_128 (by decide) ?_
        refine ez_aload_n (i := 1) dX11_goHourBy_131 rfl rfl ?_
        refine ez_bipush (v := 24) dX11_goHourBy_132 (by decide) ?_
        refine ez_iaN (k := 24) dX11_goHourBy_134 (hF.lt (by decide)) (hF.ka (by decide) rfl) (by omega) (by decide) ?_
        refine ez_topE (y := I 124 24) (by rw [hI11, z_set_ne (by decide), hI8, z_set_nk (by decide), hI0, z_set_nk (by decide)]) ?_
        refine ez_topE (y := x 24) (hx _ (by omega)) ?_
        refine ez_iconst (v := 1) dX11_goHourBy_135 (by decide) ?_
        refine ez_iadd dX11_goHourBy_136 ?_
        refine ez_min dX11_goHourBy_137 xmX11_197 (Nat.le_of_ble_eq_true rfl) ?_
        refine ez_isN (k := 24) dX11_goHourBy_140 (hF.lt (by decide)) (hF.lx (by decide)) (hF.ka (by decide) rfl) (by omega) (by decide) ?_
        refine ez_nmI (fun I12 hI12 => ?_)
        refine ez_aload_n (i := 1) dX11_goHourBy_141 rfl rfl ?_
        refine ez_bipush (v := 21) dX11_goHourBy_142 (by decide) ?_
        refine ez_iconst (v := 0) dX11_goHourBy_144 (by decide) ?_
        refine ez_isN (k := 21) dX11_goHourBy_145 (hF.lt (by decide)) (hF.lx (by decide)) (hF.ka (by decide) rfl) (by omega) (by decide) ?_
        refine ez_nmI (fun I13 hI13 => ?_)
        refine ez_aload_n (i := 1) dX11_goHourBy_146 rfl rfl ?_
        refine ez_bipush (v := 25) dX11_goHourBy_147 (by decide) ?_
        refine ez_dup2 dX11_goHourBy_149 rfl rfl ?_
        refine ez_iaN (k := 25) dX11_goHourBy_150 (hF.lt (by decide)) (hF.ka (by decide) rfl) (by omega) (by decide) ?_
        refine ez_topE (y := I 124 25) (by rw [hI13, z_set_nk (by decide), hI12, z_set_nk (by decide), hI11, z_set_ne (by decide), hI8, z_set_nk (by decide), hI0, z_set_nk (by decide)]) ?_
        refine ez_topE (y := x 25) (hx _ (by omega)) ?_
        refine ez_iconst (v := 1) dX11_goHourBy_151 (by decide) ?_
        refine ez_iadd dX11_goHourBy_152 ?_
        refine ez_isN (k := 25) dX11_goHourBy_153 (hF.lt (by decide)) (hF.lx (by decide)) (hF.ka (by decide) rfl) (by omega) (by decide) ?_
        refine ez_nmI (fun I14 hI14 => ?_)
        refine ez_vret dX11_goHourBy_154 rfl ?_
        have hJ : ∀ c, c ≠ 112 → c ≠ 124 → I14 c = I c := fun c g112 g124 => by rw [hI14, z_set_ne (by omega), hI13, z_set_ne (by omega), hI12, z_set_ne (by omega), hI11, z_set_ne (by omega), hI8, z_set_ne (by omega), hI0, z_set_ne (by omega)]
        have hJf : ∀ k, k ≠ 25 → I14 112 k = I 112 k := fun k g25 => by rw [hI14, z_set_ne (by decide), hI13, z_set_ne (by decide), hI12, z_set_ne (by decide), hI11, z_set_nk (by omega), hI8, z_set_ne (by decide), hI0, z_set_ne (by decide)]
        have hR : ∀ k, k ≠ 21 → k ≠ 22 → k ≠ 23 → k ≠ 24 → k ≠ 25 → I14 124 k = I 124 k := fun k g21 g22 g23 g24 g25 => by rw [hI14, z_set_nk (by omega), hI13, z_set_nk (by omega), hI12, z_set_nk (by omega), hI11, z_set_ne (by decide), hI8, z_set_nk (by omega), hI0, z_set_nk (by omega)]
        have r21 : I14 124 21 = zh1 T wd x 21 := by rw [hI14, z_set_nk (by decide), hI13, z_set_at]; rw [zh1_21, if_neg c9]
        have r22 : I14 124 22 = zh1 T wd x 22 := by rw [hI14, z_set_nk (by decide), hI13, z_set_nk (by decide), hI12, z_set_nk (by decide), hI11, z_set_ne (by decide), hI8, z_set_nk (by decide), hI0, z_set_at, zh1_22]
        have r23 : I14 124 23 = zh1 T wd x 23 := by rw [hI14, z_set_nk (by decide), hI13, z_set_nk (by decide), hI12, z_set_nk (by decide), hI11, z_set_ne (by decide), hI8, z_set_at]; rw [zh1_23, ← zhg_gt hxr hwr hv c1]
        have r24 : I14 124 24 = zh1 T wd x 24 := by rw [hI14, z_set_nk (by decide), hI13, z_set_nk (by decide), hI12, z_set_at]; rw [zh1_24, if_neg c9, z_mn_c]
        have r25 : I14 124 25 = zh1 T wd x 25 := by rw [hI14, z_set_at, zh1_25]
        have ro : I14 112 25 = I 112 25 + zho T wd x := by rw [hI14, z_set_ne (by decide), hI13, z_set_ne (by decide), hI12, z_set_ne (by decide), hI11, z_set_at, zho, if_neg c9]
        exact ⟨rfl, _, rfl, z_row5 hx r21 r22 r23 r24 r25 hR (fun k g1 g2 g3 g4 g5 => zh1_o g1 g2 g3 g4 g5), ro, fun c g1 g2 => hJ c g2 g1, fun k g => hJf k g⟩
  · skip
    refine ez_iload_n (i := 3) dX11_goHourBy_15 rfl rfl ?_
    refine ez_if_ne (tgt := 23) dX11_goHourBy_16 (by decide) (fun c15 => ?_) (fun c15 => ?_)
    · skip
      refine ez_iload_n (i := 3) dX11_goHourBy_23 rfl rfl ?_
      refine ez_abs dX11_goHourBy_24 xmX11_192 (Nat.le_of_ble_eq_true rfl) ?_
      refine ez_topE (y := z_ab to) rfl ?_
      refine ez_bipush (v := 6) dX11_goHourBy_27 (by decide) ?_
      refine ez_icmp_lt (tgt := 36) dX11_goHourBy_29 (by decide) (fun c16 => ?_) (fun c16 => ?_)
      · skip
        refine ez_iconst (v := 1) dX11_goHourBy_36 (by decide) ?_
        refine ez_istore (l' := [(4, .int 1), (3, .int to), (0, .ref 112), (1, .ref 124), (2, .int wd)]) dX11_goHourBy_37 (by decide) rfl ?_
        refine ez_aload_n (i := 1) dX11_goHourBy_39 rfl rfl ?_
        refine ez_bipush (v := 22) dX11_goHourBy_40 (by decide) ?_
        refine ez_dup2 dX11_goHourBy_42 rfl rfl ?_
        refine ez_iaN (k := 22) dX11_goHourBy_43 (hF.lt (by decide)) (hF.ka (by decide) rfl) (by omega) (by decide) ?_
        refine ez_topE (y := x 22) (hx _ (by omega)) ?_
        refine ez_iload_n (i := 3) dX11_goHourBy_44 rfl rfl ?_
        refine ez_if_le (tgt := 53) dX11_goHourBy_45 (by decide) (fun c17 => ?_) (fun c17 => ?_)
        · skip
          refine ez_iload (i := 4) dX11_goHourBy_53 rfl ?_
          refine ez_ineg dX11_goHourBy_55 ?_
          refine ez_iadd dX11_goHourBy_56 ?_
          refine ez_isN (k := 22) dX11_goHourBy_57 (hF.lt (by decide)) (hF.lx (by decide)) (hF.ka (by decide) rfl) (by omega) (by decide) ?_
          refine ez_nmI (fun I18 hI18 => ?_)
          refine ez_sub (l' := [(0, .ref 112), (1, .ref 124), (2, .int wd)]) [2, 3, 4] rfl ?_
          refine ez_eq (σ2 := (n, sl, kd, z_set I 124 22 (zhl T wd x), L, Rf)) rfl rfl rfl (by rw [hI18, hzl, if_pos c17, if_pos c15, if_pos c16]) hk
        · skip
          refine ez_iload (i := 4) dX11_goHourBy_48 rfl ?_
          refine ez_goto (tgt := 56) dX11_goHourBy_50 (by decide) ?_
          refine ez_iadd dX11_goHourBy_56 ?_
          refine ez_isN (k := 22) dX11_goHourBy_57 (hF.lt (by decide)) (hF.lx (by decide)) (hF.ka (by decide) rfl) (by omega) (by decide) ?_
          refine ez_nmI (fun I19 hI19 => ?_)
          refine ez_sub (l' := [(0, .ref 112), (1, .ref 124), (2, .int wd)]) [2, 3, 4] rfl ?_
          refine ez_eq (σ2 := (n, sl, kd, z_set I 124 22 (zhl T wd x), L, Rf)) rfl rfl rfl (by rw [hI19, hzl, if_neg c17, if_pos c15, if_pos c16]) hk
      · skip
        refine ez_iconst (v := 2) dX11_goHourBy_32 (by decide) ?_
        refine ez_goto (tgt := 37) dX11_goHourBy_33 (by decide) ?_
        refine ez_istore (l' := [(4, .int 2), (3, .int to), (0, .ref 112), (1, .ref 124), (2, .int wd)]) dX11_goHourBy_37 (by decide) rfl ?_
        refine ez_aload_n (i := 1) dX11_goHourBy_39 rfl rfl ?_
        refine ez_bipush (v := 22) dX11_goHourBy_40 (by decide) ?_
        refine ez_dup2 dX11_goHourBy_42 rfl rfl ?_
        refine ez_iaN (k := 22) dX11_goHourBy_43 (hF.lt (by decide)) (hF.ka (by decide) rfl) (by omega) (by decide) ?_
        refine ez_topE (y := x 22) (hx _ (by omega)) ?_
        refine ez_iload_n (i := 3) dX11_goHourBy_44 rfl rfl ?_
        refine ez_if_le (tgt := 53) dX11_goHourBy_45 (by decide) (fun c20 => ?_) (fun c20 => ?_)
        · skip
          refine ez_iload (i := 4) dX11_goHourBy_53 rfl ?_
          refine ez_ineg dX11_goHourBy_55 ?_
          refine ez_iadd dX11_goHourBy_56 ?_
          refine ez_isN (k := 22) dX11_goHourBy_57 (hF.lt (by decide)) (hF.lx (by decide)) (hF.ka (by decide) rfl) (by omega) (by decide) ?_
          refine ez_nmI (fun I21 hI21 => ?_)
          refine ez_sub (l' := [(0, .ref 112), (1, .ref 124), (2, .int wd)]) [2, 3, 4] rfl ?_
          refine ez_eq (σ2 := (n, sl, kd, z_set I 124 22 (zhl T wd x), L, Rf)) rfl rfl rfl (by rw [hI21, hzl, if_pos c20, if_pos c15, if_neg c16]) hk
        · skip
          refine ez_iload (i := 4) dX11_goHourBy_48 rfl ?_
          refine ez_goto (tgt := 56) dX11_goHourBy_50 (by decide) ?_
          refine ez_iadd dX11_goHourBy_56 ?_
          refine ez_isN (k := 22) dX11_goHourBy_57 (hF.lt (by decide)) (hF.lx (by decide)) (hF.ka (by decide) rfl) (by omega) (by decide) ?_
          refine ez_nmI (fun I22 hI22 => ?_)
          refine ez_sub (l' := [(0, .ref 112), (1, .ref 124), (2, .int wd)]) [2, 3, 4] rfl ?_
          refine ez_eq (σ2 := (n, sl, kd, z_set I 124 22 (zhl T wd x), L, Rf)) rfl rfl rfl (by rw [hI22, hzl, if_neg c20, if_pos c15, if_neg c16]) hk
    · skip
      refine ez_iconst (v := 0) dX11_goHourBy_19 (by decide) ?_
      refine ez_goto (tgt := 37) dX11_goHourBy_20 (by decide) ?_
      refine ez_istore (l' := [(4, .int 0), (3, .int to), (0, .ref 112), (1, .ref 124), (2, .int wd)]) dX11_goHourBy_37 (by decide) rfl ?_
      refine ez_aload_n (i := 1) dX11_goHourBy_39 rfl rfl ?_
      refine ez_bipush (v := 22) dX11_goHourBy_40 (by decide) ?_
      refine ez_dup2 dX11_goHourBy_42 rfl rfl ?_
      refine ez_iaN (k := 22) dX11_goHourBy_43 (hF.lt (by decide)) (hF.ka (by decide) rfl) (by omega) (by decide) ?_
      refine ez_topE (y := x 22) (hx _ (by omega)) ?_
      refine ez_iload_n (i := 3) dX11_goHourBy_44 rfl rfl ?_
      refine ez_if_le (tgt := 53) dX11_goHourBy_45 (by decide) (fun c23 => ?_) (fun c23 => ?_)
      · skip
        refine ez_iload (i := 4) dX11_goHourBy_53 rfl ?_
        refine ez_ineg dX11_goHourBy_55 ?_
        refine ez_iadd dX11_goHourBy_56 ?_
        refine ez_isN (k := 22) dX11_goHourBy_57 (hF.lt (by decide)) (hF.lx (by decide)) (hF.ka (by decide) rfl) (by omega) (by decide) ?_
        refine ez_nmI (fun I24 hI24 => ?_)
        refine ez_sub (l' := [(0, .ref 112), (1, .ref 124), (2, .int wd)]) [2, 3, 4] rfl ?_
        refine ez_eq (σ2 := (n, sl, kd, z_set I 124 22 (zhl T wd x), L, Rf)) rfl rfl rfl (by rw [hI24, hzl, if_pos c23, if_neg c15]) hk
      · skip
        refine ez_iload (i := 4) dX11_goHourBy_48 rfl ?_
        refine ez_goto (tgt := 56) dX11_goHourBy_50 (by decide) ?_
        refine ez_iadd dX11_goHourBy_56 ?_
        refine ez_isN (k := 22) dX11_goHourBy_57 (hF.lt (by decide)) (hF.lx (by decide)) (hF.ka (by decide) rfl) (by omega) (by decide) ?_
        refine ez_nmI (fun I25 hI25 => ?_)
        refine ez_sub (l' := [(0, .ref 112), (1, .ref 124), (2, .int wd)]) [2, 3, 4] rfl ?_
        refine ez_eq (σ2 := (n, sl, kd, z_set I 124 22 (zhl T wd x), L, Rf)) rfl rfl rfl (by rw [hI25, hzl, if_neg c23, if_neg c15]) hk
