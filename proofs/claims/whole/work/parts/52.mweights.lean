/-! the reference: weights and pulls by T; best, trims, frees, bears, parties, just -/
def zwt (T : zT) (x : Nat → Int32) (b : Nat) : Int32 := zwl T.rv T.pr T.c x (x 22) (x 25) b
def zst (T : zT) (x : Nat → Int32) : Int32 := zsl T.rv T.pr T.c x (x 22) (x 25) T.c
def zsw (T : zT) (x : Nat → Int32) (wo : Int32) : Int32 := zso T.rv T.pr T.c x (x 22) (x 25) wo T.c
def zpl (T : zT) (x : Nat → Int32) : Int32 := z_pull (zst T x) (zhw T x) (x 21)
theorem z_mc (k : Nat) (c : Int32) : nI k - c + 1 = nI (k + 1) - c := by rw [← nI_1, Int32.sub_eq_add_neg, Int32.sub_eq_add_neg, Int32.add_assoc, Int32.add_comm (-c) 1, ← Int32.add_assoc]
theorem z_cm (c : Int32) (k : Nat) : c - nI k + (-1) = c - nI (k + 1) := by rw [← nI_1, Int32.sub_eq_add_neg, Int32.sub_eq_add_neg, Int32.neg_add, Int32.sub_eq_add_neg, Int32.add_assoc]
section ZWP
variable {n : Nat} {sl : Nat × Nat} {kd : Nat → Nat × Nat} {I : Nat → Nat → Int32} {L : Nat → Nat → Int64} {Rf : Nat → Nat → Option Nat}
theorem y_wt (d : Nat) {T : zT} (hW : zW n kd I Rf T) (hc7 : T.c ≤ 7) {H : Nat} {p : Nat} (hp : p = 113 ∨ p = 124) {x : Nat → Int32} (hx : ∀ k, k < 26 → I p k = x k) (hxr : zxr T.c H x) (hH : H ≤ 2147483648) {b : Nat} (hb : b < T.c) : zq mX11_weightOf (d + 306) [.ref 112, .ref p, .int (nI b)] (n, sl, kd, I, L, Rf) (eb_r (zwt T x b) (n, sl, kd, I, L, Rf)) := y_X11_weightOf d hW hc7 hp hx hxr hH hb
theorem y_sd (d : Nat) {T : zT} (hW : zW n kd I Rf T) (hc7 : T.c ≤ 7) {H : Nat} {p : Nat} (hp : p = 113 ∨ p = 124) {x : Nat → Int32} (hx : ∀ k, k < 26 → I p k = x k) (hxr : zxr T.c H x) (hH : H ≤ 2147483648) : zq mX11_sidesOf (d + 307) [.ref 112, .ref p, .int (-1)] (n, sl, kd, I, L, Rf) (eb_r (zst T x) (n, sl, kd, I, L, Rf)) := by
  have h := y_X11_sidesOf (sl := sl) (L := L) d hW hc7 hp hx hxr hH (-1)
  rw [zso_no _ (by omega)] at h
  exact h
theorem y_mo (d : Nat) {T : zT} (hW : zW n kd I Rf T) (hc7 : T.c ≤ 7) {H : Nat} {p : Nat} (hp : p = 113 ∨ p = 124) {x : Nat → Int32} (hx : ∀ k, k < 26 → I p k = x k) (hxr : zxr T.c H x) (hH : H ≤ 2147483648) (w : Int32) : zq mX11_momentOf (d + 308) [.ref 112, .ref p, .int w] (n, sl, kd, I, L, Rf) (eb_r (zst T x + 2 * w * x 21) (n, sl, kd, I, L, Rf)) := y_X11_momentOf d hW hc7 hp hx hxr hH w
theorem y_wind (d : Nat) {T : zT} (hW : zW n kd I Rf T) (hc7 : T.c ≤ 7) {H : Nat} {p : Nat} (hp : p = 113 ∨ p = 124) {x : Nat → Int32} (hx : ∀ k, k < 26 → I p k = x k) (hxr : zxr T.c H x) (hH : H ≤ 2147483648) (hwm : 0 < T.wm ∧ T.wm ≤ 20) : zq mX11_windOf d [.ref 112, .ref p] (n, sl, kd, I, L, Rf) (eb_r (zhw T x) (n, sl, kd, I, L, Rf)) := by
  obtain ⟨hr, h1, h2⟩ := hxr.h
  have h := y_X11_windOf (sl := sl) (L := L) d hW hc7 hp hx hxr hH hwm h2 (by omega)
  rw [show T.wd (hr % T.wm) = zhw T x from by unfold zhw; rw [h2, nI_clamp (by omega)]] at h
  exact h
theorem y_pl (d : Nat) {T : zT} (hW : zW n kd I Rf T) (hc7 : T.c ≤ 7) {H : Nat} {p : Nat} (hp : p = 113 ∨ p = 124) {x : Nat → Int32} (hx : ∀ k, k < 26 → I p k = x k) (hxr : zxr T.c H x) (hH : H ≤ 2147483648) (hwm : 0 < T.wm ∧ T.wm ≤ 20) : zq mX11_pullOf (d + 309) [.ref 112, .ref p] (n, sl, kd, I, L, Rf) (eb_r (zpl T x) (n, sl, kd, I, L, Rf)) := by
  obtain ⟨hr, h1, h2⟩ := hxr.h
  have h := y_X11_pullOf (sl := sl) (L := L) d hW hc7 hp hx hxr hH hwm h2 (by omega)
  rw [show T.wd (hr % T.wm) = zhw T x from by unfold zhw; rw [h2, nI_clamp (by omega)]] at h
  exact h
end ZWP
/-- the same weights, winds, brothers -/
def zsm (T T1 : zT) : Prop := T.rv = T1.rv ∧ T.pr = T1.pr ∧ T.wm = T1.wm ∧ T.wd = T1.wd ∧ T.c = T1.c ∧ T.x = T1.x
theorem zQ.W {n : Nat} {kd : Nat → Nat × Nat} {I0 g I : Nat → Nat → Int32} {L0 L : Nat → Nat → Int64} {Rf : Nat → Nat → Option Nat} {T T1 : zT} {x : Nat → Int32} {o : Int32} (h : zQ n kd I0 L0 Rf g I L T1 x o) (e : zsm T T1) : zW n kd I Rf T := h.M.W.to e.1 e.2.1 e.2.2.1 e.2.2.2.1 e.2.2.2.2.1
theorem zQ.Mx {n : Nat} {kd : Nat → Nat × Nat} {I0 g I : Nat → Nat → Int32} {L0 L : Nat → Nat → Int64} {Rf : Nat → Nat → Option Nat} {T T1 : zT} {x : Nat → Int32} {o : Int32} (h : zQ n kd I0 L0 Rf g I L T1 x o) (e : zsm T T1) : ∀ k, k < 26 → I 113 k = T.x k := fun k hk => by rw [e.2.2.2.2.2]; exact h.M.x k hk
theorem zQ.layT {n : Nat} {kd : Nat → Nat × Nat} {I0 g I : Nat → Nat → Int32} {L0 L : Nat → Nat → Int64} {Rf : Nat → Nat → Option Nat} {T T1 : zT} {x : Nat → Int32} {o : Int32} (h : zQ n kd I0 L0 Rf g I L T1 x o) (e : zsm T T1) : zQ n kd I0 L0 Rf g (z_l26 I 113 124 0 26) L T1 T.x o := by rw [e.2.2.2.2.2]; exact h.lay
def zpQ (n : Nat) (sl : Nat × Nat) (kd : Nat → Nat × Nat) (I0 : Nat → Nat → Int32) (L0 : Nat → Nat → Int64) (Rf : Nat → Nat → Option Nat) (g : Nat → Nat → Int32) (L : Nat → Nat → Int64) (T : zT) (v : Option Value) : Option Value → eb_S → Prop := fun r τ => r = v ∧ ∃ I1 x1 o1, τ = (n, sl, kd, I1, L, Rf) ∧ zQ n kd I0 L0 Rf g I1 L T x1 o1
theorem zpQ_ok {n : Nat} {sl : Nat × Nat} {kd : Nat → Nat × Nat} {I0 g : Nat → Nat → Int32} {L0 L : Nat → Nat → Int64} {Rf : Nat → Nat → Option Nat} {T : zT} {v : Option Value} {l : List (Nat × Value)} {rest : List Value} : ∀ r1 σ1, zpQ n sl kd I0 L0 Rf g L T v r1 σ1 → σ1.1 = n ∨ ((∀ q ∈ l, eb_okv n q.2) ∧ ∀ v ∈ rest, eb_okv n v) := fun _ _ h => Or.inl (by obtain ⟨_, I1, x1, o1, h, _⟩ := h; rw [h])
theorem zup_at {x : Nat → Int32} {k : Nat} {v : Int32} : zup x k v k = v := if_pos rfl
theorem zup_ne {x : Nat → Int32} {k q : Nat} {v : Int32} (h : q ≠ k) : zup x k v q = x q := if_neg h
theorem zxr.sail {c H : Nat} {x : Nat → Int32} (h : zxr c H x) (hc : c ≤ 7) {s : Int32} (hs : ∃ k, k < 10 ∧ s = nI k) : zxr c H (zup x 21 s) :=
  ⟨fun b hb => by rw [zup_ne (by omega)]; exact h.g b hb, fun b hb => by rw [zup_ne (by omega)]; exact h.t b hb, fun b hb => by rw [zup_ne (by omega)]; exact h.p b hb, by rw [zup_at]; exact hs, h.l, h.lg, h.ov, h.h⟩
theorem zxr.pla {c H : Nat} {x : Nat → Int32} (h : zxr c H x) (hc : c ≤ 7) {b : Nat} (hb0 : b < 7) {v : Int32} (hv : ∃ k, k < 11 ∧ v = nI k - 5) : zxr c H (zup x (14 + b) v) :=
  ⟨fun q hb => by rw [zup_ne (by omega)]; exact h.g q hb, fun q hb => by rw [zup_ne (by omega)]; exact h.t q hb, fun q hb => by
    by_cases e : q = b
    · rw [e, zup_at]; exact hv
    · rw [zup_ne (by omega)]; exact h.p q hb, by rw [zup_ne (by omega)]; exact h.s, by rw [zup_ne (by omega)]; exact h.l, by rw [zup_ne (by omega)]; exact h.lg, by rw [zup_ne (by omega)]; exact h.ov, by rw [zup_ne (by omega)]; exact h.h⟩
theorem zxr.tho {c H : Nat} {x : Nat → Int32} (h : zxr c H x) (hc : c ≤ 7) {b : Nat} (hb0 : b < 7) {v : Int32} (hv : ∃ k, k < 6 ∧ v = nI k) : zxr c H (zup x (7 + b) v) :=
  ⟨fun q hb => by rw [zup_ne (by omega)]; exact h.g q hb, fun q hb => by
    by_cases e : q = b
    · rw [e, zup_at]; exact hv
    · rw [zup_ne (by omega)]; exact h.t q hb, fun q hb => by rw [zup_ne (by omega)]; exact h.p q hb, by rw [zup_ne (by omega)]; exact h.s, by rw [zup_ne (by omega)]; exact h.l, by rw [zup_ne (by omega)]; exact h.lg, by rw [zup_ne (by omega)]; exact h.ov, by rw [zup_ne (by omega)]; exact h.h⟩
/-- how many sets of brothers but one -/
def zN (T : zT) : Nat := 2 ^ T.c - 1
theorem zN_le {T : zT} (h : T.c ≤ 7) : zN T ≤ 127 := by
  unfold zN
  have : T.c = 0 ∨ T.c = 1 ∨ T.c = 2 ∨ T.c = 3 ∨ T.c = 4 ∨ T.c = 5 ∨ T.c = 6 ∨ T.c = 7 := by omega
  rcases this with e | e | e | e | e | e | e | e <;> rw [e] <;> decide
def zal (T : zT) : Int32 := nI (zN T)
theorem zal_k : ∀ c, c < 8 → (1 : Int32) <<< (nI c &&& 31) - 1 = nI (2 ^ c - 1) := by decide +kernel
theorem y_allT {n : Nat} {sl : Nat × Nat} {kd : Nat → Nat × Nat} {I : Nat → Nat → Int32} {L : Nat → Nat → Int64} {Rf : Nat → Nat → Option Nat} (d : Nat) (hF : zF n kd Rf) {T : zT} (hc : I 112 1 = nI T.c) (hc7 : T.c ≤ 7 := by assumption) : zq mX11_all d [.ref 112] (n, sl, kd, I, L, Rf) (eb_r (zal T) (n, sl, kd, I, L, Rf)) := by
  have h := y_X11_all (sl := sl) (I := I) (L := L) d hF
  rw [hc, zal_k _ (by omega)] at h
  exact h
def zlg (T : zT) (s : Int32) (N : Nat) : Int32 := zhk T (zup T.x 21 s) N 23 - T.x 23
theorem y_X11_leaguesBy {n : Nat} {sl : Nat × Nat} {kd : Nat → Nat × Nat} {I : Nat → Nat → Int32} {L : Nat → Nat → Int64} {Rf : Nat → Nat → Option Nat} (d : Nat) {T T1 : zT} {H : Nat} {I0 g : Nat → Nat → Int32} {L0 : Nat → Nat → Int64} {x : Nat → Int32} {o : Int32} (hQ : zQ n kd I0 L0 Rf g I L T1 x o) (hT : zsm T T1) (hO : zOk H T) (hH : H ≤ 1000000000) {s : Int32} (hs : ∃ k, k < 10 ∧ s = nI k) {N : Nat} (hN : N ≤ 60)  : zq mX11_leaguesBy (d + 350) [.ref 112, .int s, .int (nI N)] (n, sl, kd, I, L, Rf) (zpQ n sl kd I0 L0 Rf g L T1 (some (.int (zlg T s N)))) := by
  have hF := hQ.M.F; have hc7 := hO.c
  intro f B
  refine ez_meth pn_X.2.2.2.2.2.2.2.2.2.2.2 (Nat.le_of_ble_eq_true rfl) ?_
  show ez_P _ _ _ _ _ _ 0 [(0, .ref 112), (1, .int s), (2, .int (nI N))] [] (n, sl, kd, I, L, Rf) _
  refine ez_aload_n (i := 0) dX11_leaguesBy_0 rfl rfl ?_
  refine ez_getR dX11_leaguesBy_1 flX11_9 (hF.lt (by decide)) (hF.kc (by decide) rfl) (hF.pt 107 rfl) ?_
  refine ez_aload_n (i := 0) dX11_leaguesBy_4 rfl rfl ?_
  refine ez_getR dX11_leaguesBy_5 flX11_49 (hF.lt (by decide)) (hF.kc (by decide) rfl) (hF.pt 117 rfl) ?_
  refine ez_iconst (v := 0) dX11_leaguesBy_8 (by decide) ?_
  refine ez_callS (M1 := mX11_lay) (rest := []) dX11_leaguesBy_9 mlX11_231 msX11_lay rfl (Nat.le_of_ble_eq_true rfl) rfl (y_lay0 (I := I) (L := L) (d + 349) hF) (eb_vok rfl) ?_
  rintro _ _ ⟨rfl, rfl⟩
  refine ez_nmI (fun I1 hI1 => ?_)
  show ez_P _ _ _ _ _ _ 12 [(0, .ref 112), (1, .int s), (2, .int (nI N))] [] (n, sl, kd, I1, L, Rf) _
  have hQ2 : zQ n kd I0 L0 Rf g I1 L T1 T.x o := by rw [hI1]; exact hQ.layT hT
  refine ez_aload_n (i := 0) dX11_leaguesBy_12 rfl rfl ?_
  refine ez_getR dX11_leaguesBy_13 flX11_49 (hF.lt (by decide)) (hF.kc (by decide) rfl) (hF.pt 117 rfl) ?_
  refine ez_bipush (v := 21) dX11_leaguesBy_16 (by decide) ?_
  refine ez_iload_n (i := 1) dX11_leaguesBy_18 rfl rfl ?_
  refine ez_isN (k := 21) dX11_leaguesBy_19 (hF.lt (by decide)) (hF.lx (by decide)) (hF.ka (by decide) rfl) (by omega) (by decide) ?_
  refine ez_nmI (fun I3 hI3 => ?_)
  have hQ4 : zQ n kd I0 L0 Rf g I3 L T1 (zup T.x 21 s) o := by rw [hI3]; exact hQ2.set
  refine ez_aload_n (i := 0) dX11_leaguesBy_20 rfl rfl ?_
  refine ez_aload_n (i := 0) dX11_leaguesBy_21 rfl rfl ?_
  refine ez_getR dX11_leaguesBy_22 flX11_49 (hF.lt (by decide)) (hF.kc (by decide) rfl) (hF.pt 117 rfl) ?_
  refine ez_iload_n (i := 2) dX11_leaguesBy_25 rfl rfl ?_
  refine ez_callV (M1 := mX11_goHours) (rest := []) dX11_leaguesBy_26 mlX11_249 mvX11_goHours rfl (hF.lt (by decide)) (hF.kc (by decide) rfl) (Nat.le_of_ble_eq_true rfl) rfl (y_X11_goHours (I := I3) (N := N) (d + 38) (hQ4.W (T := T) hT) hc7 (Or.inr rfl) hQ4.x (hO.x.sail hO.c hs) (by omega) (by omega) hO.wm hO.wd) zpH_ok ?_
  rintro _ _ ⟨rfl, I5, rfl, hq6⟩
  show ez_P _ _ _ _ _ _ 29 [(0, .ref 112), (1, .int s), (2, .int (nI N))] [] (n, sl, kd, I5, L, Rf) _
  have hQ7 : zQ n kd I0 L0 Rf g I5 L T1 (zhk T (zup T.x 21 s) N) (zhc T (zup T.x 21 s) N) := by exact hQ4.hp hq6
  refine ez_aload_n (i := 0) dX11_leaguesBy_29 rfl rfl ?_
  refine ez_getR dX11_leaguesBy_30 flX11_49 (hF.lt (by decide)) (hF.kc (by decide) rfl) (hF.pt 117 rfl) ?_
  refine ez_bipush (v := 23) dX11_leaguesBy_33 (by decide) ?_
  refine ez_iaN (k := 23) dX11_leaguesBy_35 (hF.lt (by decide)) (hF.ka (by decide) rfl) (by omega) (by decide) ?_
  refine ez_topE (y := (zhk T (zup T.x 21 s) N) 23) (hQ7.x _ (by decide)) ?_
  refine ez_aload_n (i := 0) dX11_leaguesBy_36 rfl rfl ?_
  refine ez_getR dX11_leaguesBy_37 flX11_9 (hF.lt (by decide)) (hF.kc (by decide) rfl) (hF.pt 107 rfl) ?_
  refine ez_bipush (v := 23) dX11_leaguesBy_40 (by decide) ?_
  refine ez_iaN (k := 23) dX11_leaguesBy_42 (hF.lt (by decide)) (hF.ka (by decide) rfl) (by omega) (by decide) ?_
  refine ez_topE (y := T.x 23) ((hQ7.M.x _ (by decide)).trans (congrFun hT.2.2.2.2.2 _).symm) ?_
  refine ez_isub dX11_leaguesBy_43 ?_
  refine ez_iret dX11_leaguesBy_44 rfl rfl ?_
  exact ⟨rfl, _, _, _, rfl, hQ7⟩
def b_best (T : zT) (N : Nat) (k : Nat) (a : Int32 × Int32) : Int32 × Int32 := if a.2 < zlg T (nI k) N then (nI k, zlg T (nI k) N) else a
def a_best (T : zT) (N : Nat) : Nat → Int32 × Int32
  | 0 => (0, -1)
  | k + 1 => b_best T N k (a_best T N k)
def s_best (T : zT) (n : Int32) : Int32 × zT := if 1 ≤ n ∧ n ≤ 60 then ((a_best T n.toNatClampNeg 10).1, T.w_rw [(a_best T n.toNatClampNeg 10).2.toInt64, (zlg T (T.x 21) n.toNatClampNeg).toInt64]) else (-1, T)
theorem y_X11_best_ok {n : Nat} {sl : Nat × Nat} {kd : Nat → Nat × Nat} {I : Nat → Nat → Int32} {L : Nat → Nat → Int64} {Rf : Nat → Nat → Option Nat} (d : Nat) {T : zT} {H : Nat} (hM : zM n kd I L Rf T) (hO : zOk H T) (hH : H ≤ 1000000000) {n0 : Nat} (hn1 : 1 ≤ n0) (hn : n0 ≤ 60)  : zq mX11_best (d + 400) [.ref 112, .int (nI n0)] (n, sl, kd, I, L, Rf) (zpM n sl kd I L Rf (some (.int (s_best T (nI n0)).1)) (s_best T (nI n0)).2) := by
  have hF := hM.F; have hc7 := hO.c
  intro f B
  refine ez_meth pn_X.2.2.2.2.2.2.2.2.2.2.2 (Nat.le_of_ble_eq_true rfl) ?_
  show ez_P _ _ _ _ _ _ 0 [(0, .ref 112), (1, .int (nI n0))] [] (n, sl, kd, I, L, Rf) _
  refine ez_aload_n (i := 0) dX11_best_0 rfl rfl ?_
  refine ez_iconst (v := 0) dX11_best_1 (by decide) ?_
  refine ez_pI dX11_best_2 plX11_89 (hF.lt (by decide)) (hF.lx (by decide)) (hF.kc (by decide) rfl) rfl rfl ?_
  refine ez_nmI (fun I1 hI1 => ?_)
  have hQ2 : zQ n kd I L Rf I I1 L T (I 124) (I 112 25) := by rw [hI1]; exact zQ.start hM
  refine ez_iload_n (i := 1) dX11_best_5 rfl rfl ?_
  refine ez_iconst (v := 1) dX11_best_6 (by decide) ?_
  refine ez_bipush (v := 60) dX11_best_7 (by decide) ?_
  refine ez_callS (M1 := mX11_in) (rest := []) dX11_best_9 mlX11_98 msX11_in rfl (Nat.le_of_ble_eq_true rfl) rfl (zq_b1 (z_n19 (N := 60) hn1 hn (by decide)) (zq_b (q_X11_in (d + 399) (nI n0) 1 60) (n, sl, kd, I1, L, Rf))) eb_rok ?_
  rintro _ _ ⟨rfl, rfl⟩
  show ez_P _ _ _ _ _ _ 12 [(0, .ref 112), (1, .int (nI n0))] (.int 1 :: []) _ _
  refine ez_if_ne (tgt := 17) dX11_best_12 (by decide) (fun c3 => ?_) (fun c3 => absurd (by decide) c3)
  refine ez_iconst (v := 0) dX11_best_17 (by decide) ?_
  refine ez_istore_n (l' := [(2, .int 0), (0, .ref 112), (1, .int (nI n0))]) dX11_best_18 rfl (by decide) rfl ?_
  refine ez_iconst (v := (-1)) dX11_best_19 (by decide) ?_
  refine ez_istore_n (l' := [(3, .int ((-1))), (2, .int 0), (0, .ref 112), (1, .int (nI n0))]) dX11_best_20 rfl (by decide) rfl ?_
  refine ez_iconst (v := 0) dX11_best_21 (by decide) ?_
  refine ez_istore (l' := [(4, .int 0), (3, .int ((-1))), (2, .int 0), (0, .ref 112), (1, .int (nI n0))]) dX11_best_22 (by decide) rfl ?_
  refine ez_eq (l2 := [(4, .int (nI 0)), (3, .int ((-1))), (2, .int 0), (0, .ref 112), (1, .int (nI n0))]) (σ2 := (n, sl, kd, I1, L, Rf)) rfl rfl rfl rfl ?_
  refine ez_for 10 (fun k (a : (Nat → Nat → Int32) × (Nat → Nat → Int64) × (Nat → Int32) × Int32 × Int32 × Int32) => ([(4, .int (nI k)), (3, .int a.2.2.2.2.2), (2, .int a.2.2.2.2.1), (0, .ref 112), (1, .int (nI n0))], (n, sl, kd, a.1, a.2.1, Rf))) (fun k a => zQ n kd I L Rf I a.1 a.2.1 T a.2.2.1 a.2.2.2.1 ∧ (a.2.2.2.2.1, a.2.2.2.2.2) = a_best T n0 k) ?_ ?_ 10 0 (I1, L, I 124, I 112 25, 0, (-1)) (by omega) ⟨hQ2, rfl⟩
  · rintro k ⟨Ia, La, xa, oa, ba, bm⟩ hk ⟨hQ0, hac⟩ ih
    have hQ0 : zQ n kd I L Rf I Ia La T xa oa := hQ0
    have hac : (ba, bm) = a_best T n0 k := hac
    show ez_P _ _ _ _ _ _ 24 [(4, .int (nI k)), (3, .int bm), (2, .int ba), (0, .ref 112), (1, .int (nI n0))] [] (n, sl, kd, Ia, La, Rf) _
    refine ez_iload (i := 4) dX11_best_24 rfl ?_
    refine ez_bipush (v := 9) dX11_best_26 (by decide) ?_
    refine ez_icmp_gt (tgt := 62) dX11_best_28 (by decide) (fun c4 => absurd c4 (Int32.not_lt.mpr (nI_le (b := 9) (by omega) (by decide)))) (fun c4 => ?_)
    refine ez_aload_n (i := 0) dX11_best_31 rfl rfl ?_
    refine ez_iload (i := 4) dX11_best_32 rfl ?_
    refine ez_iload_n (i := 1) dX11_best_34 rfl rfl ?_
    refine ez_callV (M1 := mX11_leaguesBy) (rest := []) dX11_best_35 mlX11_297 mvX11_leaguesBy rfl (hF.lt (by decide)) (hF.kc (by decide) rfl) (Nat.le_of_ble_eq_true rfl) rfl (y_X11_leaguesBy (T := T) (I := Ia) (L := La) (d + 49) hQ0 ⟨rfl, rfl, rfl, rfl, rfl, rfl⟩ hO hH (N := n0) ⟨k, by omega, rfl⟩ hn) zpQ_ok ?_
    rintro _ _ ⟨rfl, I5, x6, o7, rfl, hQ8⟩
    show ez_P _ _ _ _ _ _ 38 [(4, .int (nI k)), (3, .int bm), (2, .int ba), (0, .ref 112), (1, .int (nI n0))] (.int (zlg T (nI k) n0) :: []) (n, sl, kd, I5, La, Rf) _
    have hQ8 : zQ n kd I L Rf I I5 La T x6 o7 := hQ8
    refine ez_iload_n (i := 3) dX11_best_38 rfl rfl ?_
    refine ez_icmp_gt (tgt := 45) dX11_best_39 (by decide) (fun c9 => ?_) (fun c9 => ?_)
    · skip
      refine ez_iload (i := 4) dX11_best_45 rfl ?_
      refine ez_istore_n (l' := [(2, .int (nI k)), (4, .int (nI k)), (3, .int bm), (0, .ref 112), (1, .int (nI n0))]) dX11_best_47 rfl (by decide) rfl ?_
      refine ez_aload_n (i := 0) dX11_best_48 rfl rfl ?_
      refine ez_iload (i := 4) dX11_best_49 rfl ?_
      refine ez_iload_n (i := 1) dX11_best_51 rfl rfl ?_
      refine ez_callV (M1 := mX11_leaguesBy) (rest := []) dX11_best_52 mlX11_297 mvX11_leaguesBy rfl (hF.lt (by decide)) (hF.kc (by decide) rfl) (Nat.le_of_ble_eq_true rfl) rfl (y_X11_leaguesBy (T := T) (I := I5) (L := La) (d + 49) hQ8 ⟨rfl, rfl, rfl, rfl, rfl, rfl⟩ hO hH (N := n0) ⟨k, by omega, rfl⟩ hn) zpQ_ok ?_
      rintro _ _ ⟨rfl, I10, x11, o12, rfl, hQ13⟩
      show ez_P _ _ _ _ _ _ 55 [(2, .int (nI k)), (4, .int (nI k)), (3, .int bm), (0, .ref 112), (1, .int (nI n0))] (.int (zlg T (nI k) n0) :: []) (n, sl, kd, I10, La, Rf) _
      have hQ13 : zQ n kd I L Rf I I10 La T x11 o12 := hQ13
      refine ez_istore_n (l' := [(3, .int (zlg T (nI k) n0)), (2, .int (nI k)), (4, .int (nI k)), (0, .ref 112), (1, .int (nI n0))]) dX11_best_55 rfl (by decide) rfl ?_
      refine ez_iinc (v := (nI (k + 1))) (l' := [(4, .int ((nI (k + 1)))), (3, .int (zlg T (nI k) n0)), (2, .int (nI k)), (0, .ref 112), (1, .int (nI n0))]) dX11_best_56 rfl (nI_1 _) (by decide) rfl ?_
      refine ez_goto (tgt := 24) dX11_best_59 (by decide) ?_
      exact ez_eq (l2 := [(4, .int (nI (k + 1))), (3, .int (zlg T (nI k) n0)), (2, .int (nI k)), (0, .ref 112), (1, .int (nI n0))]) rfl rfl rfl rfl (ih (I10, La, x11, o12, nI k, zlg T (nI k) n0) ⟨hQ13, (by rw [a_best, ← hac, b_best]; simp only [if_pos c9])⟩)
    · skip
      refine ez_goto (tgt := 56) dX11_best_42 (by decide) ?_
      refine ez_iinc (v := (nI (k + 1))) (l' := [(4, .int ((nI (k + 1)))), (3, .int bm), (2, .int ba), (0, .ref 112), (1, .int (nI n0))]) dX11_best_56 rfl (nI_1 _) (by decide) rfl ?_
      refine ez_goto (tgt := 24) dX11_best_59 (by decide) ?_
      exact ez_eq (l2 := [(4, .int (nI (k + 1))), (3, .int bm), (2, .int ba), (0, .ref 112), (1, .int (nI n0))]) rfl rfl rfl rfl (ih (I5, La, x6, o7, ba, bm) ⟨hQ8, (by rw [a_best, ← hac, b_best]; simp only [if_neg c9])⟩)
  · rintro ⟨Ia, La, xa, oa, ba, bm⟩ ⟨hQ0, hac⟩
    have hQ0 : zQ n kd I L Rf I Ia La T xa oa := hQ0
    have hac : (ba, bm) = a_best T n0 10 := hac
    show ez_P _ _ _ _ _ _ 24 [(4, .int (nI 10)), (3, .int bm), (2, .int ba), (0, .ref 112), (1, .int (nI n0))] [] (n, sl, kd, Ia, La, Rf) _
    refine ez_iload (i := 4) dX11_best_24 rfl ?_
    refine ez_bipush (v := 9) dX11_best_26 (by decide) ?_
    refine ez_icmp_gt (tgt := 62) dX11_best_28 (by decide) (fun c14 => ?_) (fun c14 => absurd (by decide) c14)
    refine ez_aload_n (i := 0) dX11_best_62 rfl rfl ?_
    refine ez_iconst (v := 0) dX11_best_63 (by decide) ?_
    refine ez_pI dX11_best_64 plX11_92 (hF.lt (by decide)) (hF.lx (by decide)) (hF.kc (by decide) rfl) rfl rfl ?_
    refine ez_nmI (fun I15 hI15 => ?_)
    have hQ16 : zQ n kd I L Rf I I15 La (T.w_rw []) xa oa := by rw [hI15]; exact hQ0.row0
    refine ez_aload_n (i := 0) dX11_best_67 rfl rfl ?_
    refine ez_iload_n (i := 3) dX11_best_68 rfl rfl ?_
    refine ez_i2l dX11_best_69 rfl ?_
    refine ez_callV (M1 := mX11_tell) (rest := []) dX11_best_70 mlX11_252 mvX11_tell rfl (hF.lt (by decide)) (hF.kc (by decide) rfl) (Nat.le_of_ble_eq_true rfl) rfl (y_X11_tell (I := I15) (L := La) (d + 399) hF (k := 0) hQ16.M.rw.1 (by decide) bm.toInt64) (eb_vok rfl) ?_
    rintro _ _ ⟨rfl, rfl⟩
    refine ez_nmI (fun I17 hI17 => ?_)
    refine ez_nmL (fun L18 hL18 => ?_)
    show ez_P _ _ _ _ _ _ 73 [(4, .int (nI 10)), (3, .int bm), (2, .int ba), (0, .ref 112), (1, .int (nI n0))] [] (n, sl, kd, I17, L18, Rf) _
    have hQ19 : zQ n kd I L Rf I I17 L18 (T.w_rw [bm.toInt64]) xa oa := by rw [hI17, hL18]; exact hQ16.tell bm.toInt64
    refine ez_aload_n (i := 0) dX11_best_73 rfl rfl ?_
    refine ez_aload_n (i := 0) dX11_best_74 rfl rfl ?_
    refine ez_aload_n (i := 0) dX11_best_75 rfl rfl ?_
    refine ez_getR dX11_best_76 flX11_9 (hF.lt (by decide)) (hF.kc (by decide) rfl) (hF.pt 107 rfl) ?_
    refine ez_bipush (v := 21) dX11_best_79 (by decide) ?_
    refine ez_iaN (k := 21) dX11_best_81 (hF.lt (by decide)) (hF.ka (by decide) rfl) (by omega) (by decide) ?_
    refine ez_topE (y := T.x 21) (hQ19.M.x _ (by decide)) ?_
    refine ez_iload_n (i := 1) dX11_best_82 rfl rfl ?_
    refine ez_callV (M1 := mX11_leaguesBy) (rest := [.ref 112]) dX11_best_83 mlX11_297 mvX11_leaguesBy rfl (hF.lt (by decide)) (hF.kc (by decide) rfl) (Nat.le_of_ble_eq_true rfl) rfl (y_X11_leaguesBy (T := T) (I := I17) (L := L18) (d + 49) hQ19 ⟨rfl, rfl, rfl, rfl, rfl, rfl⟩ hO hH (N := n0) hO.x.s hn) zpQ_ok ?_
    rintro _ _ ⟨rfl, I20, x21, o22, rfl, hQ23⟩
    show ez_P _ _ _ _ _ _ 86 [(4, .int (nI 10)), (3, .int bm), (2, .int ba), (0, .ref 112), (1, .int (nI n0))] (.int (zlg T (T.x 21) n0) :: [.ref 112]) (n, sl, kd, I20, L18, Rf) _
    have hQ23 : zQ n kd I L Rf I I20 L18 (T.w_rw [bm.toInt64]) x21 o22 := hQ23
    refine ez_i2l dX11_best_86 rfl ?_
    refine ez_callV (M1 := mX11_tell) (rest := []) dX11_best_87 mlX11_252 mvX11_tell rfl (hF.lt (by decide)) (hF.kc (by decide) rfl) (Nat.le_of_ble_eq_true rfl) rfl (y_X11_tell (I := I20) (L := L18) (d + 399) hF (k := 1) hQ23.M.rw.1 (by decide) ((zlg T (T.x 21) n0).toInt64)) (eb_vok rfl) ?_
    rintro _ _ ⟨rfl, rfl⟩
    refine ez_nmI (fun I24 hI24 => ?_)
    refine ez_nmL (fun L25 hL25 => ?_)
    show ez_P _ _ _ _ _ _ 90 [(4, .int (nI 10)), (3, .int bm), (2, .int ba), (0, .ref 112), (1, .int (nI n0))] [] (n, sl, kd, I24, L25, Rf) _
    have hQ26 : zQ n kd I L Rf I I24 L25 (T.w_rw [bm.toInt64, (zlg T (T.x 21) n0).toInt64]) x21 o22 := by rw [hI24, hL25]; exact hQ23.tell ((zlg T (T.x 21) n0).toInt64)
    refine ez_iload_n (i := 2) dX11_best_90 rfl rfl ?_
    refine ez_iret dX11_best_91 rfl rfl ?_
    rw [show s_best T (nI n0) = (ba, T.w_rw [bm.toInt64, (zlg T (T.x 21) n0).toInt64]) from by unfold s_best; rw [if_pos ⟨(z_n19 (N := 60) hn1 hn (by decide)).1, (z_n19 (N := 60) hn1 hn (by decide)).2⟩, nI_clamp (by omega), ← hac]]
    exact hQ26.end
theorem y_X11_best_no {n : Nat} {sl : Nat × Nat} {kd : Nat → Nat × Nat} {I : Nat → Nat → Int32} {L : Nat → Nat → Int64} {Rf : Nat → Nat → Option Nat} (d : Nat) {T : zT} {H : Nat} (hM : zM n kd I L Rf T) (hO : zOk H T) (hH : H ≤ 1000000000) {v : Int32} (hn : ¬ (1 ≤ v ∧ v ≤ 60))  : zq mX11_best (d + 400) [.ref 112, .int v] (n, sl, kd, I, L, Rf) (zpM n sl kd I L Rf (some (.int (s_best T v).1)) (s_best T v).2) := by
  have hF := hM.F; have hc7 := hO.c
  have hsp : s_best T v = ((-1), T) := (by unfold s_best; rw [if_neg hn])
  rw [hsp]
  intro f B
  refine ez_meth pn_X.2.2.2.2.2.2.2.2.2.2.2 (Nat.le_of_ble_eq_true rfl) ?_
  show ez_P _ _ _ _ _ _ 0 [(0, .ref 112), (1, .int v)] [] (n, sl, kd, I, L, Rf) _
  refine ez_aload_n (i := 0) dX11_best_0 rfl rfl ?_
  refine ez_iconst (v := 0) dX11_best_1 (by decide) ?_
  refine ez_pI dX11_best_2 plX11_89 (hF.lt (by decide)) (hF.lx (by decide)) (hF.kc (by decide) rfl) rfl rfl ?_
  refine ez_nmI (fun I1 hI1 => ?_)
  have hQ2 : zQ n kd I L Rf I I1 L T (I 124) (I 112 25) := by rw [hI1]; exact zQ.start hM
  refine ez_iload_n (i := 1) dX11_best_5 rfl rfl ?_
  refine ez_iconst (v := 1) dX11_best_6 (by decide) ?_
  refine ez_bipush (v := 60) dX11_best_7 (by decide) ?_
  refine ez_callS (M1 := mX11_in) (rest := []) dX11_best_9 mlX11_98 msX11_in rfl (Nat.le_of_ble_eq_true rfl) rfl (zq_b0 hn (zq_b (q_X11_in (d + 399) v 1 60) (n, sl, kd, I1, L, Rf))) eb_rok ?_
  rintro _ _ ⟨rfl, rfl⟩
  show ez_P _ _ _ _ _ _ 12 [(0, .ref 112), (1, .int v)] (.int 0 :: []) _ _
  refine ez_if_ne (tgt := 17) dX11_best_12 (by decide) (fun c3 => absurd c3 (by decide)) (fun c3 => ?_)
  refine ez_iconst (v := (-1)) dX11_best_15 (by decide) ?_
  refine ez_iret dX11_best_16 rfl rfl ?_
  exact hQ2.end
theorem y_X11_best {n : Nat} {sl : Nat × Nat} {kd : Nat → Nat × Nat} {I : Nat → Nat → Int32} {L : Nat → Nat → Int64} {Rf : Nat → Nat → Option Nat} (d : Nat) {T : zT} {H : Nat} (hM : zM n kd I L Rf T) (hO : zOk H T) (hH : H ≤ 1000000000) (v : Int32) : zq mX11_best (d + 400) [.ref 112, .int v] (n, sl, kd, I, L, Rf) (zpM n sl kd I L Rf (some (.int (s_best T v).1)) (s_best T v).2) := by
  by_cases hn : 1 ≤ v ∧ v ≤ 60
  · obtain ⟨n0, h1, hn0, rfl⟩ := z_pk1 (lo := 1) (N := 60) hn (by decide) (by decide)
    exact y_X11_best_ok d hM hO hH h1 hn0
  · exact y_X11_best_no d hM hO hH hn
theorem y_X11_pullAt {n : Nat} {sl : Nat × Nat} {kd : Nat → Nat × Nat} {I : Nat → Nat → Int32} {L : Nat → Nat → Int64} {Rf : Nat → Nat → Option Nat} (d : Nat) {T T1 : zT} {H : Nat} {I0 g : Nat → Nat → Int32} {L0 : Nat → Nat → Int64} {x : Nat → Int32} {o : Int32} (hQ : zQ n kd I0 L0 Rf g I L T1 x o) (hT : zsm T T1) (hO : zOk H T) (hH : H ≤ 1000000000) {b0 : Nat} (hb : b0 < T.c) {v : Int32} (hv : ∃ k, k < 11 ∧ v = nI k - 5)  : zq mX11_pullAt (d + 350) [.ref 112, .int (nI b0), .int v] (n, sl, kd, I, L, Rf) (zpQ n sl kd I0 L0 Rf g L T1 (some (.int (zpl T (zup T.x (14 + b0) v))))) := by
  have hF := hQ.M.F; have hc7 := hO.c
  intro f B
  refine ez_meth pn_X.2.2.2.2.2.2.2.2.2.2.2 (Nat.le_of_ble_eq_true rfl) ?_
  show ez_P _ _ _ _ _ _ 0 [(0, .ref 112), (1, .int (nI b0)), (2, .int v)] [] (n, sl, kd, I, L, Rf) _
  refine ez_aload_n (i := 0) dX11_pullAt_0 rfl rfl ?_
  refine ez_getR dX11_pullAt_1 flX11_9 (hF.lt (by decide)) (hF.kc (by decide) rfl) (hF.pt 107 rfl) ?_
  refine ez_aload_n (i := 0) dX11_pullAt_4 rfl rfl ?_
  refine ez_getR dX11_pullAt_5 flX11_49 (hF.lt (by decide)) (hF.kc (by decide) rfl) (hF.pt 117 rfl) ?_
  refine ez_iconst (v := 0) dX11_pullAt_8 (by decide) ?_
  refine ez_callS (M1 := mX11_lay) (rest := []) dX11_pullAt_9 mlX11_231 msX11_lay rfl (Nat.le_of_ble_eq_true rfl) rfl (y_lay0 (I := I) (L := L) (d + 349) hF) (eb_vok rfl) ?_
  rintro _ _ ⟨rfl, rfl⟩
  refine ez_nmI (fun I1 hI1 => ?_)
  show ez_P _ _ _ _ _ _ 12 [(0, .ref 112), (1, .int (nI b0)), (2, .int v)] [] (n, sl, kd, I1, L, Rf) _
  have hQ2 : zQ n kd I0 L0 Rf g I1 L T1 T.x o := by rw [hI1]; exact hQ.layT hT
  refine ez_aload_n (i := 0) dX11_pullAt_12 rfl rfl ?_
  refine ez_getR dX11_pullAt_13 flX11_49 (hF.lt (by decide)) (hF.kc (by decide) rfl) (hF.pt 117 rfl) ?_
  refine ez_bipush (v := 14) dX11_pullAt_16 (by decide) ?_
  refine ez_iload_n (i := 1) dX11_pullAt_18 rfl rfl ?_
  refine ez_iadd dX11_pullAt_19 ?_
  refine ez_topE (y := nI (14 + b0)) (nI_add _ _) ?_
  refine ez_iload_n (i := 2) dX11_pullAt_20 rfl rfl ?_
  refine ez_isN (k := (14 + b0)) dX11_pullAt_21 (hF.lt (by decide)) (hF.lx (by decide)) (hF.ka (by decide) rfl) (by omega) (by decide) ?_
  refine ez_nmI (fun I3 hI3 => ?_)
  have hQ4 : zQ n kd I0 L0 Rf g I3 L T1 (zup T.x (14 + b0) v) o := by rw [hI3]; exact hQ2.set
  refine ez_aload_n (i := 0) dX11_pullAt_22 rfl rfl ?_
  refine ez_aload_n (i := 0) dX11_pullAt_23 rfl rfl ?_
  refine ez_getR dX11_pullAt_24 flX11_49 (hF.lt (by decide)) (hF.kc (by decide) rfl) (hF.pt 117 rfl) ?_
  refine ez_callV (M1 := mX11_pullOf) (rest := []) dX11_pullAt_27 mlX11_277 mvX11_pullOf rfl (hF.lt (by decide)) (hF.kc (by decide) rfl) (Nat.le_of_ble_eq_true rfl) rfl (y_pl (I := I3) (L := L) (d + 40) (hQ4.W (T := T) hT) hc7 (Or.inr rfl) hQ4.x (hO.x.pla hO.c (b := b0) (by omega) hv) (by omega) hO.wm) eb_rok ?_
  rintro _ _ ⟨rfl, rfl⟩
  show ez_P _ _ _ _ _ _ 30 [(0, .ref 112), (1, .int (nI b0)), (2, .int v)] (.int (zpl T (zup T.x (14 + b0) v)) :: []) _ _
  refine ez_iret dX11_pullAt_30 rfl rfl ?_
  exact ⟨rfl, _, _, _, rfl, hQ4⟩
def b_trims (T : zT) (b : Nat) (k : Nat) (a : Int32) : Int32 := if z_ab (zpl T (zup T.x (14 + b) a)) ≤ z_ab (zpl T (zup T.x (14 + b) (nI k - 5))) then a else nI k - 5
def a_trims (T : zT) (b : Nat) : Nat → Int32
  | 0 => -5
  | k + 1 => b_trims T b k (a_trims T b k)
def s_trims (T : zT) (b : Int32) : Int32 × zT := if 0 ≤ b ∧ b < nI T.c then (10 + a_trims T b.toNatClampNeg 11, T.w_rw [(100 + zpl T (zup T.x (14 + b.toNatClampNeg) (a_trims T b.toNatClampNeg 11))).toInt64]) else (-1, T)
theorem z_k5 : ∀ k, k < 11 → nI k - 5 ≤ 5 := by decide +kernel
theorem y_X11_trims_ok {n : Nat} {sl : Nat × Nat} {kd : Nat → Nat × Nat} {I : Nat → Nat → Int32} {L : Nat → Nat → Int64} {Rf : Nat → Nat → Option Nat} (d : Nat) {T : zT} {H : Nat} (hM : zM n kd I L Rf T) (hO : zOk H T) (hH : H ≤ 1000000000) {b0 : Nat} (hb : b0 < T.c)  : zq mX11_trims (d + 400) [.ref 112, .int (nI b0)] (n, sl, kd, I, L, Rf) (zpM n sl kd I L Rf (some (.int (s_trims T (nI b0)).1)) (s_trims T (nI b0)).2) := by
  have hF := hM.F; have hc7 := hO.c
  intro f B
  refine ez_meth pn_X.2.2.2.2.2.2.2.2.2.2.2 (Nat.le_of_ble_eq_true rfl) ?_
  show ez_P _ _ _ _ _ _ 0 [(0, .ref 112), (1, .int (nI b0))] [] (n, sl, kd, I, L, Rf) _
  refine ez_aload_n (i := 0) dX11_trims_0 rfl rfl ?_
  refine ez_iconst (v := 0) dX11_trims_1 (by decide) ?_
  refine ez_pI dX11_trims_2 plX11_89 (hF.lt (by decide)) (hF.lx (by decide)) (hF.kc (by decide) rfl) rfl rfl ?_
  refine ez_nmI (fun I1 hI1 => ?_)
  have hQ2 : zQ n kd I L Rf I I1 L T (I 124) (I 112 25) := by rw [hI1]; exact zQ.start hM
  refine ez_aload_n (i := 0) dX11_trims_5 rfl rfl ?_
  refine ez_iload_n (i := 1) dX11_trims_6 rfl rfl ?_
  refine ez_callV (M1 := mX11_isOne) (rest := []) dX11_trims_7 mlX11_221 mvX11_isOne rfl (hF.lt (by decide)) (hF.kc (by decide) rfl) (Nat.le_of_ble_eq_true rfl) rfl (zq_b1 (z_bin hb hO.c) (y_X11_isOne (I := I1) (L := L) (d + 398) hF hQ2.M.c hO.c (nI b0))) eb_rok ?_
  rintro _ _ ⟨rfl, rfl⟩
  show ez_P _ _ _ _ _ _ 10 [(0, .ref 112), (1, .int (nI b0))] (.int 1 :: []) _ _
  refine ez_if_ne (tgt := 15) dX11_trims_10 (by decide) (fun c3 => ?_) (fun c3 => absurd (by decide) c3)
  refine ez_bipush (v := (-5)) dX11_trims_15 (by decide) ?_
  refine ez_istore_n (l' := [(2, .int ((-5))), (0, .ref 112), (1, .int (nI b0))]) dX11_trims_17 rfl (by decide) rfl ?_
  refine ez_bipush (v := (-5)) dX11_trims_18 (by decide) ?_
  refine ez_istore_n (l' := [(3, .int ((-5))), (2, .int ((-5))), (0, .ref 112), (1, .int (nI b0))]) dX11_trims_20 rfl (by decide) rfl ?_
  refine ez_eq (l2 := [(3, .int ((nI 0 - 5))), (2, .int ((-5))), (0, .ref 112), (1, .int (nI b0))]) (σ2 := (n, sl, kd, I1, L, Rf)) rfl (by rw [show (nI 0 - 5 : Int32) = -5 from by decide]) rfl rfl ?_
  refine ez_for 11 (fun k (a : (Nat → Nat → Int32) × (Nat → Nat → Int64) × (Nat → Int32) × Int32 × Int32) => ([(3, .int ((nI k - 5))), (2, .int a.2.2.2.2), (0, .ref 112), (1, .int (nI b0))], (n, sl, kd, a.1, a.2.1, Rf))) (fun k a => zQ n kd I L Rf I a.1 a.2.1 T a.2.2.1 a.2.2.2.1 ∧ a.2.2.2.2 = a_trims T b0 k ∧ ∃ q, q < 11 ∧ a.2.2.2.2 = nI q - 5) ?_ ?_ 11 0 (I1, L, I 124, I 112 25, (-5)) (by omega) ⟨hQ2, rfl, ⟨0, by decide, (by show (-5 : Int32) = nI 0 - 5; decide)⟩⟩
  · rintro k ⟨Ia, La, xa, oa, bb⟩ hk ⟨hQ0, hac, hex⟩ ih
    have hQ0 : zQ n kd I L Rf I Ia La T xa oa := hQ0
    have hac : bb = a_trims T b0 k := hac
    have hex : ∃ q, q < 11 ∧ bb = nI q - 5 := hex
    show ez_P _ _ _ _ _ _ 21 [(3, .int ((nI k - 5))), (2, .int bb), (0, .ref 112), (1, .int (nI b0))] [] (n, sl, kd, Ia, La, Rf) _
    refine ez_iload_n (i := 3) dX11_trims_21 rfl rfl ?_
    refine ez_iconst (v := 5) dX11_trims_22 (by decide) ?_
    refine ez_icmp_gt (tgt := 59) dX11_trims_23 (by decide) (fun c4 => absurd c4 (Int32.not_lt.mpr (z_k5 k hk))) (fun c4 => ?_)
    refine ez_aload_n (i := 0) dX11_trims_26 rfl rfl ?_
    refine ez_iload_n (i := 1) dX11_trims_27 rfl rfl ?_
    refine ez_iload_n (i := 3) dX11_trims_28 rfl rfl ?_
    refine ez_callV (M1 := mX11_pullAt) (rest := []) dX11_trims_29 mlX11_300 mvX11_pullAt rfl (hF.lt (by decide)) (hF.kc (by decide) rfl) (Nat.le_of_ble_eq_true rfl) rfl (y_X11_pullAt (T := T) (I := Ia) (L := La) (d + 49) hQ0 ⟨rfl, rfl, rfl, rfl, rfl, rfl⟩ hO hH hb ⟨k, by omega, rfl⟩) zpQ_ok ?_
    rintro _ _ ⟨rfl, I5, x6, o7, rfl, hQ8⟩
    show ez_P _ _ _ _ _ _ 32 [(3, .int ((nI k - 5))), (2, .int bb), (0, .ref 112), (1, .int (nI b0))] (.int (zpl T (zup T.x (14 + b0) (nI k - 5))) :: []) (n, sl, kd, I5, La, Rf) _
    have hQ8 : zQ n kd I L Rf I I5 La T x6 o7 := hQ8
    refine ez_abs dX11_trims_32 xmX11_192 (Nat.le_of_ble_eq_true rfl) ?_
    refine ez_topE (y := z_ab (zpl T (zup T.x (14 + b0) (nI k - 5)))) rfl ?_
    refine ez_aload_n (i := 0) dX11_trims_35 rfl rfl ?_
    refine ez_iload_n (i := 1) dX11_trims_36 rfl rfl ?_
    refine ez_iload_n (i := 2) dX11_trims_37 rfl rfl ?_
    refine ez_callV (M1 := mX11_pullAt) (rest := [.int (z_ab (zpl T (zup T.x (14 + b0) (nI k - 5))))]) dX11_trims_38 mlX11_300 mvX11_pullAt rfl (hF.lt (by decide)) (hF.kc (by decide) rfl) (Nat.le_of_ble_eq_true rfl) rfl (y_X11_pullAt (T := T) (I := I5) (L := La) (d + 49) hQ8 ⟨rfl, rfl, rfl, rfl, rfl, rfl⟩ hO hH hb hex) zpQ_ok ?_
    rintro _ _ ⟨rfl, I9, x10, o11, rfl, hQ12⟩
    show ez_P _ _ _ _ _ _ 41 [(3, .int ((nI k - 5))), (2, .int bb), (0, .ref 112), (1, .int (nI b0))] (.int (zpl T (zup T.x (14 + b0) bb)) :: [.int (z_ab (zpl T (zup T.x (14 + b0) (nI k - 5))))]) (n, sl, kd, I9, La, Rf) _
    have hQ12 : zQ n kd I L Rf I I9 La T x10 o11 := hQ12
    refine ez_abs dX11_trims_41 xmX11_192 (Nat.le_of_ble_eq_true rfl) ?_
    refine ez_topE (y := z_ab (zpl T (zup T.x (14 + b0) bb))) rfl ?_
    refine ez_icmp_ge (tgt := 51) dX11_trims_44 (by decide) (fun c13 => ?_) (fun c13 => ?_)
    · skip
      refine ez_iload_n (i := 2) dX11_trims_51 rfl rfl ?_
      refine ez_istore_n (l' := [(2, .int bb), (3, .int ((nI k - 5))), (0, .ref 112), (1, .int (nI b0))]) dX11_trims_52 rfl (by decide) rfl ?_
      refine ez_iinc (v := (nI (k + 1) - 5)) (l' := [(3, .int ((nI (k + 1) - 5))), (2, .int bb), (0, .ref 112), (1, .int (nI b0))]) dX11_trims_53 rfl (z_mc _ _) (by decide) rfl ?_
      refine ez_goto (tgt := 21) dX11_trims_56 (by decide) ?_
      exact ez_eq (l2 := [(3, .int ((nI (k + 1) - 5))), (2, .int bb), (0, .ref 112), (1, .int (nI b0))]) rfl rfl rfl rfl (ih (I9, La, x10, o11, bb) ⟨hQ12, (by rw [a_trims, ← hac, b_trims]; simp only [if_pos c13]), hex⟩)
    · skip
      refine ez_iload_n (i := 3) dX11_trims_47 rfl rfl ?_
      refine ez_goto (tgt := 52) dX11_trims_48 (by decide) ?_
      refine ez_istore_n (l' := [(2, .int ((nI k - 5))), (3, .int ((nI k - 5))), (0, .ref 112), (1, .int (nI b0))]) dX11_trims_52 rfl (by decide) rfl ?_
      refine ez_iinc (v := (nI (k + 1) - 5)) (l' := [(3, .int ((nI (k + 1) - 5))), (2, .int ((nI k - 5))), (0, .ref 112), (1, .int (nI b0))]) dX11_trims_53 rfl (z_mc _ _) (by decide) rfl ?_
      refine ez_goto (tgt := 21) dX11_trims_56 (by decide) ?_
      exact ez_eq (l2 := [(3, .int ((nI (k + 1) - 5))), (2, .int ((nI k - 5))), (0, .ref 112), (1, .int (nI b0))]) rfl rfl rfl rfl (ih (I9, La, x10, o11, (nI k - 5)) ⟨hQ12, (by rw [a_trims, ← hac, b_trims]; simp only [if_neg c13]), ⟨k, hk, rfl⟩⟩)
  · rintro ⟨Ia, La, xa, oa, bb⟩ ⟨hQ0, hac, hex⟩
    have hQ0 : zQ n kd I L Rf I Ia La T xa oa := hQ0
    have hac : bb = a_trims T b0 11 := hac
    have hex : ∃ q, q < 11 ∧ bb = nI q - 5 := hex
    show ez_P _ _ _ _ _ _ 21 [(3, .int ((nI 11 - 5))), (2, .int bb), (0, .ref 112), (1, .int (nI b0))] [] (n, sl, kd, Ia, La, Rf) _
    refine ez_iload_n (i := 3) dX11_trims_21 rfl rfl ?_
    refine ez_iconst (v := 5) dX11_trims_22 (by decide) ?_
    refine ez_icmp_gt (tgt := 59) dX11_trims_23 (by decide) (fun c14 => ?_) (fun c14 => absurd (by decide) c14)
    refine ez_aload_n (i := 0) dX11_trims_59 rfl rfl ?_
    refine ez_iconst (v := 0) dX11_trims_60 (by decide) ?_
    refine ez_pI dX11_trims_61 plX11_92 (hF.lt (by decide)) (hF.lx (by decide)) (hF.kc (by decide) rfl) rfl rfl ?_
    refine ez_nmI (fun I15 hI15 => ?_)
    have hQ16 : zQ n kd I L Rf I I15 La (T.w_rw []) xa oa := by rw [hI15]; exact hQ0.row0
    refine ez_aload_n (i := 0) dX11_trims_64 rfl rfl ?_
    refine ez_bipush (v := 100) dX11_trims_65 (by decide) ?_
    refine ez_aload_n (i := 0) dX11_trims_67 rfl rfl ?_
    refine ez_iload_n (i := 1) dX11_trims_68 rfl rfl ?_
    refine ez_iload_n (i := 2) dX11_trims_69 rfl rfl ?_
    refine ez_callV (M1 := mX11_pullAt) (rest := [.int 100, .ref 112]) dX11_trims_70 mlX11_300 mvX11_pullAt rfl (hF.lt (by decide)) (hF.kc (by decide) rfl) (Nat.le_of_ble_eq_true rfl) rfl (y_X11_pullAt (T := T) (I := I15) (L := La) (d + 49) hQ16 ⟨rfl, rfl, rfl, rfl, rfl, rfl⟩ hO hH hb hex) zpQ_ok ?_
    rintro _ _ ⟨rfl, I17, x18, o19, rfl, hQ20⟩
    show ez_P _ _ _ _ _ _ 73 [(3, .int ((nI 11 - 5))), (2, .int bb), (0, .ref 112), (1, .int (nI b0))] (.int (zpl T (zup T.x (14 + b0) bb)) :: [.int 100, .ref 112]) (n, sl, kd, I17, La, Rf) _
    have hQ20 : zQ n kd I L Rf I I17 La (T.w_rw []) x18 o19 := hQ20
    refine ez_iadd dX11_trims_73 ?_
    refine ez_i2l dX11_trims_74 rfl ?_
    refine ez_callV (M1 := mX11_tell) (rest := []) dX11_trims_75 mlX11_252 mvX11_tell rfl (hF.lt (by decide)) (hF.kc (by decide) rfl) (Nat.le_of_ble_eq_true rfl) rfl (y_X11_tell (I := I17) (L := La) (d + 399) hF (k := 0) hQ20.M.rw.1 (by decide) ((100 + (zpl T (zup T.x (14 + b0) bb))).toInt64)) (eb_vok rfl) ?_
    rintro _ _ ⟨rfl, rfl⟩
    refine ez_nmI (fun I21 hI21 => ?_)
    refine ez_nmL (fun L22 hL22 => ?_)
    show ez_P _ _ _ _ _ _ 78 [(3, .int ((nI 11 - 5))), (2, .int bb), (0, .ref 112), (1, .int (nI b0))] [] (n, sl, kd, I21, L22, Rf) _
    have hQ23 : zQ n kd I L Rf I I21 L22 (T.w_rw [(100 + (zpl T (zup T.x (14 + b0) bb))).toInt64]) x18 o19 := by rw [hI21, hL22]; exact hQ20.tell ((100 + (zpl T (zup T.x (14 + b0) bb))).toInt64)
    refine ez_bipush (v := 10) dX11_trims_78 (by decide) ?_
    refine ez_iload_n (i := 2) dX11_trims_80 rfl rfl ?_
    refine ez_iadd dX11_trims_81 ?_
    refine ez_iret dX11_trims_82 rfl rfl ?_
    rw [show s_trims T (nI b0) = (10 + bb, T.w_rw [(100 + zpl T (zup T.x (14 + b0) bb)).toInt64]) from by unfold s_trims; rw [if_pos ⟨(z_bin hb hO.c).1, (z_bin hb hO.c).2⟩, nI_clamp (by omega), ← hac]]
    exact hQ23.end
theorem y_X11_trims_no {n : Nat} {sl : Nat × Nat} {kd : Nat → Nat × Nat} {I : Nat → Nat → Int32} {L : Nat → Nat → Int64} {Rf : Nat → Nat → Option Nat} (d : Nat) {T : zT} {H : Nat} (hM : zM n kd I L Rf T) (hO : zOk H T) (hH : H ≤ 1000000000) {v : Int32} (hn : ¬ (0 ≤ v ∧ v < nI T.c))  : zq mX11_trims (d + 400) [.ref 112, .int v] (n, sl, kd, I, L, Rf) (zpM n sl kd I L Rf (some (.int (s_trims T v).1)) (s_trims T v).2) := by
  have hF := hM.F; have hc7 := hO.c
  have hsp : s_trims T v = ((-1), T) := (by unfold s_trims; rw [if_neg hn])
  rw [hsp]
  intro f B
  refine ez_meth pn_X.2.2.2.2.2.2.2.2.2.2.2 (Nat.le_of_ble_eq_true rfl) ?_
  show ez_P _ _ _ _ _ _ 0 [(0, .ref 112), (1, .int v)] [] (n, sl, kd, I, L, Rf) _
  refine ez_aload_n (i := 0) dX11_trims_0 rfl rfl ?_
  refine ez_iconst (v := 0) dX11_trims_1 (by decide) ?_
  refine ez_pI dX11_trims_2 plX11_89 (hF.lt (by decide)) (hF.lx (by decide)) (hF.kc (by decide) rfl) rfl rfl ?_
  refine ez_nmI (fun I1 hI1 => ?_)
  have hQ2 : zQ n kd I L Rf I I1 L T (I 124) (I 112 25) := by rw [hI1]; exact zQ.start hM
  refine ez_aload_n (i := 0) dX11_trims_5 rfl rfl ?_
  refine ez_iload_n (i := 1) dX11_trims_6 rfl rfl ?_
  refine ez_callV (M1 := mX11_isOne) (rest := []) dX11_trims_7 mlX11_221 mvX11_isOne rfl (hF.lt (by decide)) (hF.kc (by decide) rfl) (Nat.le_of_ble_eq_true rfl) rfl (zq_b0 hn (y_X11_isOne (I := I1) (L := L) (d + 398) hF hQ2.M.c hO.c v)) eb_rok ?_
  rintro _ _ ⟨rfl, rfl⟩
  show ez_P _ _ _ _ _ _ 10 [(0, .ref 112), (1, .int v)] (.int 0 :: []) _ _
  refine ez_if_ne (tgt := 15) dX11_trims_10 (by decide) (fun c3 => absurd c3 (by decide)) (fun c3 => ?_)
  refine ez_iconst (v := (-1)) dX11_trims_13 (by decide) ?_
  refine ez_iret dX11_trims_14 rfl rfl ?_
  exact hQ2.end
theorem y_X11_trims {n : Nat} {sl : Nat × Nat} {kd : Nat → Nat × Nat} {I : Nat → Nat → Int32} {L : Nat → Nat → Int64} {Rf : Nat → Nat → Option Nat} (d : Nat) {T : zT} {H : Nat} (hM : zM n kd I L Rf T) (hO : zOk H T) (hH : H ≤ 1000000000) (v : Int32) : zq mX11_trims (d + 400) [.ref 112, .int v] (n, sl, kd, I, L, Rf) (zpM n sl kd I L Rf (some (.int (s_trims T v).1)) (s_trims T v).2) := by
  by_cases hn : 0 ≤ v ∧ v < nI T.c
  · obtain ⟨b0, hb, rfl⟩ := pk_of (by have := hO.c; omega) hn.1 hn.2
    exact y_X11_trims_ok d hM hO hH hb
  · exact y_X11_trims_no d hM hO hH hn
def zpo (T : zT) (wo : Int32) : Int32 := z_pull (zsw T T.x wo) (zhw T T.x) (T.x 21)
theorem y_X11_pullWithout {n : Nat} {sl : Nat × Nat} {kd : Nat → Nat × Nat} {I : Nat → Nat → Int32} {L : Nat → Nat → Int64} {Rf : Nat → Nat → Option Nat} (d : Nat) {T T1 : zT} {H : Nat} {I0 g : Nat → Nat → Int32} {L0 : Nat → Nat → Int64} {x : Nat → Int32} {o : Int32} (hQ : zQ n kd I0 L0 Rf g I L T1 x o) (hT : zsm T T1) (hO : zOk H T) (hH : H ≤ 1000000000) (v : Int32)  : zq mX11_pullWithout (d + 350) [.ref 112, .int v] (n, sl, kd, I, L, Rf) (eb_r (zpo T v) (n, sl, kd, I, L, Rf)) := by
  have hF := hQ.M.F; have hc7 := hO.c
  intro f B
  refine ez_meth pn_X.2.2.2.2.2.2.2.2.2.2.2 (Nat.le_of_ble_eq_true rfl) ?_
  show ez_P _ _ _ _ _ _ 0 [(0, .ref 112), (1, .int v)] [] (n, sl, kd, I, L, Rf) _
  refine ez_aload_n (i := 0) dX11_pullWithout_0 rfl rfl ?_
  refine ez_aload_n (i := 0) dX11_pullWithout_1 rfl rfl ?_
  refine ez_getR dX11_pullWithout_2 flX11_9 (hF.lt (by decide)) (hF.kc (by decide) rfl) (hF.pt 107 rfl) ?_
  refine ez_iload_n (i := 1) dX11_pullWithout_5 rfl rfl ?_
  refine ez_callV (M1 := mX11_sidesOf) (rest := []) dX11_pullWithout_6 mlX11_208 mvX11_sidesOf rfl (hF.lt (by decide)) (hF.kc (by decide) rfl) (Nat.le_of_ble_eq_true rfl) rfl (y_X11_sidesOf (I := I) (L := L) (d + 42) (hQ.W (T := T) hT) hc7 (Or.inl rfl) (hQ.Mx hT) hO.x (by omega) v) eb_rok ?_
  rintro _ _ ⟨rfl, rfl⟩
  show ez_P _ _ _ _ _ _ 9 [(0, .ref 112), (1, .int v)] (.int (zsw T T.x v) :: []) _ _
  refine ez_iconst (v := 2) dX11_pullWithout_9 (by decide) ?_
  refine ez_aload_n (i := 0) dX11_pullWithout_10 rfl rfl ?_
  refine ez_aload_n (i := 0) dX11_pullWithout_11 rfl rfl ?_
  refine ez_getR dX11_pullWithout_12 flX11_9 (hF.lt (by decide)) (hF.kc (by decide) rfl) (hF.pt 107 rfl) ?_
  refine ez_callV (M1 := mX11_windOf) (rest := [.int 2, .int (zsw T T.x v)]) dX11_pullWithout_15 mlX11_211 mvX11_windOf rfl (hF.lt (by decide)) (hF.kc (by decide) rfl) (Nat.le_of_ble_eq_true rfl) rfl (y_wind (I := I) (L := L) (d + 349) (hQ.W (T := T) hT) hc7 (Or.inl rfl) (hQ.Mx hT) hO.x (by omega) hO.wm) eb_rok ?_
  rintro _ _ ⟨rfl, rfl⟩
  show ez_P _ _ _ _ _ _ 18 [(0, .ref 112), (1, .int v)] (.int (zhw T T.x) :: [.int 2, .int (zsw T T.x v)]) _ _
  refine ez_imul dX11_pullWithout_18 ?_
  refine ez_aload_n (i := 0) dX11_pullWithout_19 rfl rfl ?_
  refine ez_getR dX11_pullWithout_20 flX11_9 (hF.lt (by decide)) (hF.kc (by decide) rfl) (hF.pt 107 rfl) ?_
  refine ez_bipush (v := 21) dX11_pullWithout_23 (by decide) ?_
  refine ez_iaN (k := 21) dX11_pullWithout_25 (hF.lt (by decide)) (hF.ka (by decide) rfl) (by omega) (by decide) ?_
  refine ez_topE (y := T.x 21) ((hQ.M.x _ (by decide)).trans (congrFun hT.2.2.2.2.2 _).symm) ?_
  refine ez_imul dX11_pullWithout_26 ?_
  refine ez_iadd dX11_pullWithout_27 ?_
  refine ez_callS (M1 := mX11_pullBy) (rest := []) dX11_pullWithout_28 mlX11_218 msX11_pullBy rfl (Nat.le_of_ble_eq_true rfl) rfl (zq_r (q_X11_pullBy (d + 348) ((zsw T T.x v) + ((2 * (zhw T T.x)) * (T.x 21)))) (n, sl, kd, I, L, Rf)) eb_rok ?_
  rintro _ _ ⟨rfl, rfl⟩
  show ez_P _ _ _ _ _ _ 31 [(0, .ref 112), (1, .int v)] (.int (z_put (((zsw T T.x v) + ((2 * (zhw T T.x)) * (T.x 21))) / 8) (-20) 20) :: []) _ _
  refine ez_iret dX11_pullWithout_31 rfl rfl ?_
  exact ⟨rfl, rfl⟩
def b_frees (T : zT) (k : Nat) (a : Int32) : Int32 := if z_ab (zpo T a) ≤ z_ab (zpo T (nI (k + 1))) then a else nI (k + 1)
def a_frees (T : zT) : Nat → Int32
  | 0 => 0
  | k + 1 => b_frees T k (a_frees T k)
def s_frees (T : zT) : Int32 × zT := if T.c = 0 then (-2, T) else (a_frees T (T.c - 1), T.w_rw [(100 + zpo T (a_frees T (T.c - 1))).toInt64, (100 + zpl T T.x).toInt64])
theorem y_X11_frees {n : Nat} {sl : Nat × Nat} {kd : Nat → Nat × Nat} {I : Nat → Nat → Int32} {L : Nat → Nat → Int64} {Rf : Nat → Nat → Option Nat} (d : Nat) {T : zT} {H : Nat} (hM : zM n kd I L Rf T) (hO : zOk H T) (hH : H ≤ 1000000000)  : zq mX11_frees (d + 400) [.ref 112] (n, sl, kd, I, L, Rf) (zpM n sl kd I L Rf (some (.int (s_frees T).1)) (s_frees T).2) := by
  have hF := hM.F; have hc7 := hO.c
  intro f B
  refine ez_meth pn_X.2.2.2.2.2.2.2.2.2.2.2 (Nat.le_of_ble_eq_true rfl) ?_
  show ez_P _ _ _ _ _ _ 0 [(0, .ref 112)] [] (n, sl, kd, I, L, Rf) _
  refine ez_aload_n (i := 0) dX11_frees_0 rfl rfl ?_
  refine ez_iconst (v := 0) dX11_frees_1 (by decide) ?_
  refine ez_pI dX11_frees_2 plX11_89 (hF.lt (by decide)) (hF.lx (by decide)) (hF.kc (by decide) rfl) rfl rfl ?_
  refine ez_nmI (fun I1 hI1 => ?_)
  have hQ2 : zQ n kd I L Rf I I1 L T (I 124) (I 112 25) := by rw [hI1]; exact zQ.start hM
  refine ez_aload_n (i := 0) dX11_frees_5 rfl rfl ?_
  refine ez_getI dX11_frees_6 flX11_95 (hF.lt (by decide)) (hF.kc (by decide) rfl) ?_
  refine ez_topE (y := nI T.c) hQ2.M.c ?_
  refine ez_if_ne (tgt := 15) dX11_frees_9 (by decide) (fun c3 => ?_) (fun c3 => ?_)
  · skip
    have hc0 : ¬ T.c = 0 := fun e => c3 (by rw [e]; decide)
    refine ez_iconst (v := 0) dX11_frees_15 (by decide) ?_
    refine ez_istore_n (l' := [(1, .int 0), (0, .ref 112)]) dX11_frees_16 rfl (by decide) rfl ?_
    refine ez_iconst (v := 1) dX11_frees_17 (by decide) ?_
    refine ez_istore_n (l' := [(2, .int 1), (1, .int 0), (0, .ref 112)]) dX11_frees_18 rfl (by decide) rfl ?_
    refine ez_eq (l2 := [(2, .int (nI (0 + 1))), (1, .int 0), (0, .ref 112)]) (σ2 := (n, sl, kd, I1, L, Rf)) rfl rfl rfl rfl ?_
    refine ez_for (T.c - 1) (fun k (a : (Nat → Nat → Int32) × (Nat → Nat → Int64) × (Nat → Int32) × Int32 × Int32) => ([(2, .int (nI (k + 1))), (1, .int a.2.2.2.2), (0, .ref 112)], (n, sl, kd, a.1, a.2.1, Rf))) (fun k a => zQ n kd I L Rf I a.1 a.2.1 T a.2.2.1 a.2.2.2.1 ∧ a.2.2.2.2 = a_frees T k) ?_ ?_ (T.c - 1) 0 (I1, L, I 124, I 112 25, 0) (by omega) ⟨hQ2, rfl⟩
    · rintro k ⟨Ia, La, xa, oa, bb⟩ hk ⟨hQ0, hac⟩ ih
      have hQ0 : zQ n kd I L Rf I Ia La T xa oa := hQ0
      have hac : bb = a_frees T k := hac
      show ez_P _ _ _ _ _ _ 19 [(2, .int (nI (k + 1))), (1, .int bb), (0, .ref 112)] [] (n, sl, kd, Ia, La, Rf) _
      refine ez_iload_n (i := 2) dX11_frees_19 rfl rfl ?_
      refine ez_aload_n (i := 0) dX11_frees_20 rfl rfl ?_
      refine ez_getI dX11_frees_21 flX11_95 (hF.lt (by decide)) (hF.kc (by decide) rfl) ?_
      refine ez_topE (y := nI T.c) hQ0.M.c ?_
      refine ez_icmp_ge (tgt := 58) dX11_frees_24 (by decide) (fun c4 => absurd c4 (nI_ge (by omega) (by omega))) (fun c4 => ?_)
      refine ez_aload_n (i := 0) dX11_frees_27 rfl rfl ?_
      refine ez_iload_n (i := 2) dX11_frees_28 rfl rfl ?_
      refine ez_callV (M1 := mX11_pullWithout) (rest := []) dX11_frees_29 mlX11_303 mvX11_pullWithout rfl (hF.lt (by decide)) (hF.kc (by decide) rfl) (Nat.le_of_ble_eq_true rfl) rfl (y_X11_pullWithout (T := T) (I := Ia) (L := La) (d + 49) hQ0 ⟨rfl, rfl, rfl, rfl, rfl, rfl⟩ hO hH (nI (k + 1))) eb_rok ?_
      rintro _ _ ⟨rfl, rfl⟩
      show ez_P _ _ _ _ _ _ 32 [(2, .int (nI (k + 1))), (1, .int bb), (0, .ref 112)] (.int (zpo T (nI (k + 1))) :: []) _ _
      refine ez_abs dX11_frees_32 xmX11_192 (Nat.le_of_ble_eq_true rfl) ?_
      refine ez_topE (y := z_ab (zpo T (nI (k + 1)))) rfl ?_
      refine ez_aload_n (i := 0) dX11_frees_35 rfl rfl ?_
      refine ez_iload_n (i := 1) dX11_frees_36 rfl rfl ?_
      refine ez_callV (M1 := mX11_pullWithout) (rest := [.int (z_ab (zpo T (nI (k + 1))))]) dX11_frees_37 mlX11_303 mvX11_pullWithout rfl (hF.lt (by decide)) (hF.kc (by decide) rfl) (Nat.le_of_ble_eq_true rfl) rfl (y_X11_pullWithout (T := T) (I := Ia) (L := La) (d + 49) hQ0 ⟨rfl, rfl, rfl, rfl, rfl, rfl⟩ hO hH bb) eb_rok ?_
      rintro _ _ ⟨rfl, rfl⟩
      show ez_P _ _ _ _ _ _ 40 [(2, .int (nI (k + 1))), (1, .int bb), (0, .ref 112)] (.int (zpo T bb) :: [.int (z_ab (zpo T (nI (k + 1))))]) _ _
      refine ez_abs dX11_frees_40 xmX11_192 (Nat.le_of_ble_eq_true rfl) ?_
      refine ez_topE (y := z_ab (zpo T bb)) rfl ?_
      refine ez_icmp_ge (tgt := 50) dX11_frees_43 (by decide) (fun c5 => ?_) (fun c5 => ?_)
      · skip
        refine ez_iload_n (i := 1) dX11_frees_50 rfl rfl ?_
        refine ez_istore_n (l' := [(1, .int bb), (2, .int (nI (k + 1))), (0, .ref 112)]) dX11_frees_51 rfl (by decide) rfl ?_
        refine ez_iinc (v := (nI (k + 2))) (l' := [(2, .int ((nI (k + 2)))), (1, .int bb), (0, .ref 112)]) dX11_frees_52 rfl (nI_1 _) (by decide) rfl ?_
        refine ez_goto (tgt := 19) dX11_frees_55 (by decide) ?_
        exact ez_eq (l2 := [(2, .int (nI (k + 1 + 1))), (1, .int bb), (0, .ref 112)]) rfl rfl rfl rfl (ih (Ia, La, xa, oa, bb) ⟨hQ0, (by rw [a_frees, ← hac, b_frees]; simp only [if_pos c5])⟩)
      · skip
        refine ez_iload_n (i := 2) dX11_frees_46 rfl rfl ?_
        refine ez_goto (tgt := 51) dX11_frees_47 (by decide) ?_
        refine ez_istore_n (l' := [(1, .int (nI (k + 1))), (2, .int (nI (k + 1))), (0, .ref 112)]) dX11_frees_51 rfl (by decide) rfl ?_
        refine ez_iinc (v := (nI (k + 2))) (l' := [(2, .int ((nI (k + 2)))), (1, .int (nI (k + 1))), (0, .ref 112)]) dX11_frees_52 rfl (nI_1 _) (by decide) rfl ?_
        refine ez_goto (tgt := 19) dX11_frees_55 (by decide) ?_
        exact ez_eq (l2 := [(2, .int (nI (k + 1 + 1))), (1, .int (nI (k + 1))), (0, .ref 112)]) rfl rfl rfl rfl (ih (Ia, La, xa, oa, nI (k + 1)) ⟨hQ0, (by rw [a_frees, ← hac, b_frees]; simp only [if_neg c5])⟩)
    · rintro ⟨Ia, La, xa, oa, bb⟩ ⟨hQ0, hac⟩
      have hQ0 : zQ n kd I L Rf I Ia La T xa oa := hQ0
      have hac : bb = a_frees T (T.c - 1) := hac
      show ez_P _ _ _ _ _ _ 19 [(2, .int (nI ((T.c - 1) + 1))), (1, .int bb), (0, .ref 112)] [] (n, sl, kd, Ia, La, Rf) _
      refine ez_iload_n (i := 2) dX11_frees_19 rfl rfl ?_
      refine ez_aload_n (i := 0) dX11_frees_20 rfl rfl ?_
      refine ez_getI dX11_frees_21 flX11_95 (hF.lt (by decide)) (hF.kc (by decide) rfl) ?_
      refine ez_topE (y := nI T.c) hQ0.M.c ?_
      refine ez_icmp_ge (tgt := 58) dX11_frees_24 (by decide) (fun c6 => ?_) (fun c6 => absurd (nI_le (by omega) (by omega)) c6)
      refine ez_aload_n (i := 0) dX11_frees_58 rfl rfl ?_
      refine ez_iconst (v := 0) dX11_frees_59 (by decide) ?_
      refine ez_pI dX11_frees_60 plX11_92 (hF.lt (by decide)) (hF.lx (by decide)) (hF.kc (by decide) rfl) rfl rfl ?_
      refine ez_nmI (fun I7 hI7 => ?_)
      have hQ8 : zQ n kd I L Rf I I7 La (T.w_rw []) xa oa := by rw [hI7]; exact hQ0.row0
      refine ez_aload_n (i := 0) dX11_frees_63 rfl rfl ?_
      refine ez_bipush (v := 100) dX11_frees_64 (by decide) ?_
      refine ez_aload_n (i := 0) dX11_frees_66 rfl rfl ?_
      refine ez_iload_n (i := 1) dX11_frees_67 rfl rfl ?_
      refine ez_callV (M1 := mX11_pullWithout) (rest := [.int 100, .ref 112]) dX11_frees_68 mlX11_303 mvX11_pullWithout rfl (hF.lt (by decide)) (hF.kc (by decide) rfl) (Nat.le_of_ble_eq_true rfl) rfl (y_X11_pullWithout (T := T) (I := I7) (L := La) (d + 49) hQ8 ⟨rfl, rfl, rfl, rfl, rfl, rfl⟩ hO hH bb) eb_rok ?_
      rintro _ _ ⟨rfl, rfl⟩
      show ez_P _ _ _ _ _ _ 71 [(2, .int (nI ((T.c - 1) + 1))), (1, .int bb), (0, .ref 112)] (.int (zpo T bb) :: [.int 100, .ref 112]) _ _
      refine ez_iadd dX11_frees_71 ?_
      refine ez_i2l dX11_frees_72 rfl ?_
      refine ez_callV (M1 := mX11_tell) (rest := []) dX11_frees_73 mlX11_252 mvX11_tell rfl (hF.lt (by decide)) (hF.kc (by decide) rfl) (Nat.le_of_ble_eq_true rfl) rfl (y_X11_tell (I := I7) (L := La) (d + 399) hF (k := 0) hQ8.M.rw.1 (by decide) ((100 + (zpo T bb)).toInt64)) (eb_vok rfl) ?_
      rintro _ _ ⟨rfl, rfl⟩
      refine ez_nmI (fun I9 hI9 => ?_)
      refine ez_nmL (fun L10 hL10 => ?_)
      show ez_P _ _ _ _ _ _ 76 [(2, .int (nI ((T.c - 1) + 1))), (1, .int bb), (0, .ref 112)] [] (n, sl, kd, I9, L10, Rf) _
      have hQ11 : zQ n kd I L Rf I I9 L10 (T.w_rw [(100 + (zpo T bb)).toInt64]) xa oa := by rw [hI9, hL10]; exact hQ8.tell ((100 + (zpo T bb)).toInt64)
      refine ez_aload_n (i := 0) dX11_frees_76 rfl rfl ?_
      refine ez_bipush (v := 100) dX11_frees_77 (by decide) ?_
      refine ez_aload_n (i := 0) dX11_frees_79 rfl rfl ?_
      refine ez_aload_n (i := 0) dX11_frees_80 rfl rfl ?_
      refine ez_getR dX11_frees_81 flX11_9 (hF.lt (by decide)) (hF.kc (by decide) rfl) (hF.pt 107 rfl) ?_
      refine ez_callV (M1 := mX11_pullOf) (rest := [.int 100, .ref 112]) dX11_frees_84 mlX11_277 mvX11_pullOf rfl (hF.lt (by decide)) (hF.kc (by decide) rfl) (Nat.le_of_ble_eq_true rfl) rfl (y_pl (I := I9) (L := L10) (d + 90) (hQ11.M.W.to (T1 := T) rfl rfl rfl rfl rfl) hc7 (Or.inl rfl) hQ11.M.x hO.x (by omega) hO.wm) eb_rok ?_
      rintro _ _ ⟨rfl, rfl⟩
      show ez_P _ _ _ _ _ _ 87 [(2, .int (nI ((T.c - 1) + 1))), (1, .int bb), (0, .ref 112)] (.int (zpl T T.x) :: [.int 100, .ref 112]) _ _
      refine ez_iadd dX11_frees_87 ?_
      refine ez_i2l dX11_frees_88 rfl ?_
      refine ez_callV (M1 := mX11_tell) (rest := []) dX11_frees_89 mlX11_252 mvX11_tell rfl (hF.lt (by decide)) (hF.kc (by decide) rfl) (Nat.le_of_ble_eq_true rfl) rfl (y_X11_tell (I := I9) (L := L10) (d + 399) hF (k := 1) hQ11.M.rw.1 (by decide) ((100 + (zpl T T.x)).toInt64)) (eb_vok rfl) ?_
      rintro _ _ ⟨rfl, rfl⟩
      refine ez_nmI (fun I12 hI12 => ?_)
      refine ez_nmL (fun L13 hL13 => ?_)
      show ez_P _ _ _ _ _ _ 92 [(2, .int (nI ((T.c - 1) + 1))), (1, .int bb), (0, .ref 112)] [] (n, sl, kd, I12, L13, Rf) _
      have hQ14 : zQ n kd I L Rf I I12 L13 (T.w_rw [(100 + (zpo T bb)).toInt64, (100 + (zpl T T.x)).toInt64]) xa oa := by rw [hI12, hL13]; exact hQ11.tell ((100 + (zpl T T.x)).toInt64)
      refine ez_iload_n (i := 1) dX11_frees_92 rfl rfl ?_
      refine ez_iret dX11_frees_93 rfl rfl ?_
      rw [show s_frees T = (bb, T.w_rw [(100 + zpo T bb).toInt64, (100 + zpl T T.x).toInt64]) from by unfold s_frees; rw [if_neg hc0, ← hac]]
      exact hQ14.end
  · skip
    refine ez_bipush (v := (-2)) dX11_frees_12 (by decide) ?_
    refine ez_iret dX11_frees_14 rfl rfl ?_
    rw [show s_frees T = (-2, T) from by unfold s_frees; rw [if_pos (nI_inj0 (Classical.not_not.mp c3) (by omega))]]
    exact hQ2.end
def p_bears (T : zT) (k : Nat) : Bool := decide (z_pull (zst T T.x) (9 - nI k) (T.x 21) < 15)
def s_bears (T : zT) : Int32 × zT := match zfd (p_bears T) 10 0 with
  | some k => (9 - nI k, T.w_rw [(100 + z_pull (zst T T.x) (9 - nI k) (T.x 21)).toInt64, (100 + z_pull (zst T T.x) 9 (T.x 21)).toInt64])
  | none => (-2, T)
theorem z_9k : ∀ k, k < 10 → ¬ (9 - nI k < 0) := by decide +kernel
theorem y_X11_bears {n : Nat} {sl : Nat × Nat} {kd : Nat → Nat × Nat} {I : Nat → Nat → Int32} {L : Nat → Nat → Int64} {Rf : Nat → Nat → Option Nat} (d : Nat) {T : zT} {H : Nat} (hM : zM n kd I L Rf T) (hO : zOk H T) (hH : H ≤ 1000000000)  : zq mX11_bears (d + 400) [.ref 112] (n, sl, kd, I, L, Rf) (zpM n sl kd I L Rf (some (.int (s_bears T).1)) (s_bears T).2) := by
  have hF := hM.F; have hc7 := hO.c
  intro f B
  refine ez_meth pn_X.2.2.2.2.2.2.2.2.2.2.2 (Nat.le_of_ble_eq_true rfl) ?_
  show ez_P _ _ _ _ _ _ 0 [(0, .ref 112)] [] (n, sl, kd, I, L, Rf) _
  refine ez_aload_n (i := 0) dX11_bears_0 rfl rfl ?_
  refine ez_iconst (v := 0) dX11_bears_1 (by decide) ?_
  refine ez_pI dX11_bears_2 plX11_89 (hF.lt (by decide)) (hF.lx (by decide)) (hF.kc (by decide) rfl) rfl rfl ?_
  refine ez_nmI (fun I1 hI1 => ?_)
  have hQ2 : zQ n kd I L Rf I I1 L T (I 124) (I 112 25) := by rw [hI1]; exact zQ.start hM
  refine ez_bipush (v := 9) dX11_bears_5 (by decide) ?_
  refine ez_istore_n (l' := [(1, .int 9), (0, .ref 112)]) dX11_bears_7 rfl (by decide) rfl ?_
  refine ez_eq (l2 := [(1, .int ((9 - nI 0))), (0, .ref 112)]) (σ2 := (n, sl, kd, I1, L, Rf)) rfl (by rw [show (9 - nI 0 : Int32) = 9 from by decide]) rfl rfl ?_
  refine ez_for 10 (fun k (a : (Nat → Nat → Int32) × (Nat → Nat → Int64) × Int32) => ([(1, .int ((9 - nI k))), (0, .ref 112)], (n, sl, kd, a.1, a.2.1, Rf))) (fun k a => zQ n kd I L Rf I a.1 a.2.1 T (I 124) a.2.2 ∧ zfd (p_bears T) (10 - k) k = zfd (p_bears T) 10 0) ?_ ?_ 10 0 (I1, L, I 112 25) (by omega) ⟨hQ2, rfl⟩
  · rintro k ⟨Ia, La, oa⟩ hk ⟨hQ0, hex⟩ ih
    have hQ0 : zQ n kd I L Rf I Ia La T (I 124) oa := hQ0
    have hex : zfd (p_bears T) (10 - k) k = zfd (p_bears T) 10 0 := hex
    show ez_P _ _ _ _ _ _ 8 [(1, .int ((9 - nI k))), (0, .ref 112)] [] (n, sl, kd, Ia, La, Rf) _
    refine ez_iload_n (i := 1) dX11_bears_8 rfl rfl ?_
    refine ez_if_lt (tgt := 86) dX11_bears_9 (by decide) (fun c3 => absurd c3 (z_9k k hk)) (fun c3 => ?_)
    refine ez_aload_n (i := 0) dX11_bears_12 rfl rfl ?_
    refine ez_aload_n (i := 0) dX11_bears_13 rfl rfl ?_
    refine ez_getR dX11_bears_14 flX11_9 (hF.lt (by decide)) (hF.kc (by decide) rfl) (hF.pt 107 rfl) ?_
    refine ez_iload_n (i := 1) dX11_bears_17 rfl rfl ?_
    refine ez_callV (M1 := mX11_momentOf) (rest := []) dX11_bears_18 mlX11_215 mvX11_momentOf rfl (hF.lt (by decide)) (hF.kc (by decide) rfl) (Nat.le_of_ble_eq_true rfl) rfl (y_mo (I := Ia) (L := La) (d + 91) hQ0.M.W hc7 (Or.inl rfl) hQ0.M.x hO.x (by omega) (9 - nI k)) eb_rok ?_
    rintro _ _ ⟨rfl, rfl⟩
    show ez_P _ _ _ _ _ _ 21 [(1, .int ((9 - nI k))), (0, .ref 112)] (.int (zst T T.x + 2 * (9 - nI k) * T.x 21) :: []) _ _
    refine ez_callS (M1 := mX11_pullBy) (rest := []) dX11_bears_21 mlX11_218 msX11_pullBy rfl (Nat.le_of_ble_eq_true rfl) rfl (zq_r (q_X11_pullBy (d + 398) (zst T T.x + 2 * (9 - nI k) * T.x 21)) (n, sl, kd, Ia, La, Rf)) eb_rok ?_
    rintro _ _ ⟨rfl, rfl⟩
    show ez_P _ _ _ _ _ _ 24 [(1, .int ((9 - nI k))), (0, .ref 112)] (.int (z_put ((zst T T.x + 2 * (9 - nI k) * T.x 21) / 8) (-20) 20) :: []) _ _
    refine ez_bipush (v := 15) dX11_bears_24 (by decide) ?_
    refine ez_icmp_lt (tgt := 32) dX11_bears_26 (by decide) (fun c4 => ?_) (fun c4 => ?_)
    · skip
      refine ez_aload_n (i := 0) dX11_bears_32 rfl rfl ?_
      refine ez_iconst (v := 0) dX11_bears_33 (by decide) ?_
      refine ez_pI dX11_bears_34 plX11_92 (hF.lt (by decide)) (hF.lx (by decide)) (hF.kc (by decide) rfl) rfl rfl ?_
      refine ez_nmI (fun I5 hI5 => ?_)
      have hQ6 : zQ n kd I L Rf I I5 La (T.w_rw []) (I 124) oa := by rw [hI5]; exact hQ0.row0
      refine ez_aload_n (i := 0) dX11_bears_37 rfl rfl ?_
      refine ez_bipush (v := 100) dX11_bears_38 (by decide) ?_
      refine ez_aload_n (i := 0) dX11_bears_40 rfl rfl ?_
      refine ez_aload_n (i := 0) dX11_bears_41 rfl rfl ?_
      refine ez_getR dX11_bears_42 flX11_9 (hF.lt (by decide)) (hF.kc (by decide) rfl) (hF.pt 107 rfl) ?_
      refine ez_iload_n (i := 1) dX11_bears_45 rfl rfl ?_
      refine ez_callV (M1 := mX11_momentOf) (rest := [.int 100, .ref 112]) dX11_bears_46 mlX11_215 mvX11_momentOf rfl (hF.lt (by decide)) (hF.kc (by decide) rfl) (Nat.le_of_ble_eq_true rfl) rfl (y_mo (I := I5) (L := La) (d + 91) (hQ6.M.W.to (T1 := T) rfl rfl rfl rfl rfl) hc7 (Or.inl rfl) hQ6.M.x hO.x (by omega) (9 - nI k)) eb_rok ?_
      rintro _ _ ⟨rfl, rfl⟩
      show ez_P _ _ _ _ _ _ 49 [(1, .int ((9 - nI k))), (0, .ref 112)] (.int (zst T T.x + 2 * (9 - nI k) * T.x 21) :: [.int 100, .ref 112]) _ _
      refine ez_callS (M1 := mX11_pullBy) (rest := [.int 100, .ref 112]) dX11_bears_49 mlX11_218 msX11_pullBy rfl (Nat.le_of_ble_eq_true rfl) rfl (zq_r (q_X11_pullBy (d + 398) (zst T T.x + 2 * (9 - nI k) * T.x 21)) (n, sl, kd, I5, La, Rf)) eb_rok ?_
      rintro _ _ ⟨rfl, rfl⟩
      show ez_P _ _ _ _ _ _ 52 [(1, .int ((9 - nI k))), (0, .ref 112)] (.int (z_put ((zst T T.x + 2 * (9 - nI k) * T.x 21) / 8) (-20) 20) :: [.int 100, .ref 112]) _ _
      refine ez_iadd dX11_bears_52 ?_
      refine ez_i2l dX11_bears_53 rfl ?_
      refine ez_callV (M1 := mX11_tell) (rest := []) dX11_bears_54 mlX11_252 mvX11_tell rfl (hF.lt (by decide)) (hF.kc (by decide) rfl) (Nat.le_of_ble_eq_true rfl) rfl (y_X11_tell (I := I5) (L := La) (d + 399) hF (k := 0) hQ6.M.rw.1 (by decide) ((100 + (z_put ((zst T T.x + 2 * (9 - nI k) * T.x 21) / 8) (-20) 20)).toInt64)) (eb_vok rfl) ?_
      rintro _ _ ⟨rfl, rfl⟩
      refine ez_nmI (fun I7 hI7 => ?_)
      refine ez_nmL (fun L8 hL8 => ?_)
      show ez_P _ _ _ _ _ _ 57 [(1, .int ((9 - nI k))), (0, .ref 112)] [] (n, sl, kd, I7, L8, Rf) _
      have hQ9 : zQ n kd I L Rf I I7 L8 (T.w_rw [(100 + (z_put ((zst T T.x + 2 * (9 - nI k) * T.x 21) / 8) (-20) 20)).toInt64]) (I 124) oa := by rw [hI7, hL8]; exact hQ6.tell ((100 + (z_put ((zst T T.x + 2 * (9 - nI k) * T.x 21) / 8) (-20) 20)).toInt64)
      refine ez_aload_n (i := 0) dX11_bears_57 rfl rfl ?_
      refine ez_bipush (v := 100) dX11_bears_58 (by decide) ?_
      refine ez_aload_n (i := 0) dX11_bears_60 rfl rfl ?_
      refine ez_aload_n (i := 0) dX11_bears_61 rfl rfl ?_
      refine ez_getR dX11_bears_62 flX11_9 (hF.lt (by decide)) (hF.kc (by decide) rfl) (hF.pt 107 rfl) ?_
      refine ez_bipush (v := 9) dX11_bears_65 (by decide) ?_
      refine ez_callV (M1 := mX11_momentOf) (rest := [.int 100, .ref 112]) dX11_bears_67 mlX11_215 mvX11_momentOf rfl (hF.lt (by decide)) (hF.kc (by decide) rfl) (Nat.le_of_ble_eq_true rfl) rfl (y_mo (I := I7) (L := L8) (d + 91) (hQ9.M.W.to (T1 := T) rfl rfl rfl rfl rfl) hc7 (Or.inl rfl) hQ9.M.x hO.x (by omega) 9) eb_rok ?_
      rintro _ _ ⟨rfl, rfl⟩
      show ez_P _ _ _ _ _ _ 70 [(1, .int ((9 - nI k))), (0, .ref 112)] (.int (zst T T.x + 2 * 9 * T.x 21) :: [.int 100, .ref 112]) _ _
      refine ez_callS (M1 := mX11_pullBy) (rest := [.int 100, .ref 112]) dX11_bears_70 mlX11_218 msX11_pullBy rfl (Nat.le_of_ble_eq_true rfl) rfl (zq_r (q_X11_pullBy (d + 398) (zst T T.x + 2 * 9 * T.x 21)) (n, sl, kd, I7, L8, Rf)) eb_rok ?_
      rintro _ _ ⟨rfl, rfl⟩
      show ez_P _ _ _ _ _ _ 73 [(1, .int ((9 - nI k))), (0, .ref 112)] (.int (z_put ((zst T T.x + 2 * 9 * T.x 21) / 8) (-20) 20) :: [.int 100, .ref 112]) _ _
      refine ez_iadd dX11_bears_73 ?_
      refine ez_i2l dX11_bears_74 rfl ?_
      refine ez_callV (M1 := mX11_tell) (rest := []) dX11_bears_75 mlX11_252 mvX11_tell rfl (hF.lt (by decide)) (hF.kc (by decide) rfl) (Nat.le_of_ble_eq_true rfl) rfl (y_X11_tell (I := I7) (L := L8) (d + 399) hF (k := 1) hQ9.M.rw.1 (by decide) ((100 + (z_put ((zst T T.x + 2 * 9 * T.x 21) / 8) (-20) 20)).toInt64)) (eb_vok rfl) ?_
      rintro _ _ ⟨rfl, rfl⟩
      refine ez_nmI (fun I10 hI10 => ?_)
      refine ez_nmL (fun L11 hL11 => ?_)
      show ez_P _ _ _ _ _ _ 78 [(1, .int ((9 - nI k))), (0, .ref 112)] [] (n, sl, kd, I10, L11, Rf) _
      have hQ12 : zQ n kd I L Rf I I10 L11 (T.w_rw [(100 + (z_put ((zst T T.x + 2 * (9 - nI k) * T.x 21) / 8) (-20) 20)).toInt64, (100 + (z_put ((zst T T.x + 2 * 9 * T.x 21) / 8) (-20) 20)).toInt64]) (I 124) oa := by rw [hI10, hL11]; exact hQ9.tell ((100 + (z_put ((zst T T.x + 2 * 9 * T.x 21) / 8) (-20) 20)).toInt64)
      refine ez_iload_n (i := 1) dX11_bears_78 rfl rfl ?_
      refine ez_iret dX11_bears_79 rfl rfl ?_
      rw [show s_bears T = (9 - nI k, T.w_rw [(100 + z_pull (zst T T.x) (9 - nI k) (T.x 21)).toInt64, (100 + z_pull (zst T T.x) 9 (T.x 21)).toInt64]) from by unfold s_bears; rw [zfd_hit hex hk (by unfold p_bears; simp only [decide_eq_true_eq]; exact c4)]]
      exact hQ12.end
    · skip
      refine ez_goto (tgt := 80) dX11_bears_29 (by decide) ?_
      refine ez_iinc (v := (9 - nI (k + 1))) (l' := [(1, .int ((9 - nI (k + 1)))), (0, .ref 112)]) dX11_bears_80 rfl (z_cm _ _) (by decide) rfl ?_
      refine ez_goto (tgt := 8) dX11_bears_83 (by decide) ?_
      exact ez_eq (l2 := [(1, .int ((9 - nI (k + 1)))), (0, .ref 112)]) rfl rfl rfl rfl (ih (Ia, La, oa) ⟨hQ0, zfd_step hex hk (by unfold p_bears; simp only [decide_eq_true_eq]; exact c4)⟩)
  · rintro ⟨Ia, La, oa⟩ ⟨hQ0, hex⟩
    have hQ0 : zQ n kd I L Rf I Ia La T (I 124) oa := hQ0
    have hex : zfd (p_bears T) (10 - 10) 10 = zfd (p_bears T) 10 0 := hex
    show ez_P _ _ _ _ _ _ 8 [(1, .int ((9 - nI 10))), (0, .ref 112)] [] (n, sl, kd, Ia, La, Rf) _
    refine ez_iload_n (i := 1) dX11_bears_8 rfl rfl ?_
    refine ez_if_lt (tgt := 86) dX11_bears_9 (by decide) (fun c13 => ?_) (fun c13 => absurd (by decide) c13)
    refine ez_bipush (v := (-2)) dX11_bears_86 (by decide) ?_
    refine ez_iret dX11_bears_88 rfl rfl ?_
    rw [show s_bears T = (-2, T) from by unfold s_bears; rw [zfd_end hex]]
    exact hQ0.end
def zbt (s : Int32) (k : Nat) : Prop := s >>> (nI k &&& 31) &&& 1 = 1
def zws (T : zT) (s : Int32) : Nat → Int32
  | 0 => 0
  | k + 1 => zws T s k + (if s >>> (nI k &&& 31) &&& 1 = 1 then zwt T T.x k else 0)
def zdf (T : zT) (s : Int32) : Int32 := z_ab (zws T (zal T) T.c - 2 * zws T s T.c)
theorem y_X11_weightsOf {n : Nat} {sl : Nat × Nat} {kd : Nat → Nat × Nat} {I : Nat → Nat → Int32} {L : Nat → Nat → Int64} {Rf : Nat → Nat → Option Nat} (d : Nat) {T T1 : zT} {H : Nat} {I0 g : Nat → Nat → Int32} {L0 : Nat → Nat → Int64} {x : Nat → Int32} {o : Int32} (hQ : zQ n kd I0 L0 Rf g I L T1 x o) (hT : zsm T T1) (hO : zOk H T) (hH : H ≤ 1000000000) (s : Int32)  : zq mX11_weightsOf (d + 350) [.ref 112, .int s] (n, sl, kd, I, L, Rf) (eb_r (zws T s T.c) (n, sl, kd, I, L, Rf)) := by
  have hF := hQ.M.F; have hc7 := hO.c
  intro f B
  refine ez_meth pn_X.2.2.2.2.2.2.2.2.2.2.2 (Nat.le_of_ble_eq_true rfl) ?_
  show ez_P _ _ _ _ _ _ 0 [(0, .ref 112), (1, .int s)] [] (n, sl, kd, I, L, Rf) _
  refine ez_iconst (v := 0) dX11_weightsOf_0 (by decide) ?_
  refine ez_istore_n (l' := [(2, .int 0), (0, .ref 112), (1, .int s)]) dX11_weightsOf_1 rfl (by decide) rfl ?_
  refine ez_iconst (v := 0) dX11_weightsOf_2 (by decide) ?_
  refine ez_istore_n (l' := [(3, .int 0), (2, .int 0), (0, .ref 112), (1, .int s)]) dX11_weightsOf_3 rfl (by decide) rfl ?_
  refine ez_eq (l2 := [(3, .int (nI 0)), (2, .int (zws T s 0)), (0, .ref 112), (1, .int s)]) (σ2 := (n, sl, kd, I, L, Rf)) rfl rfl rfl rfl ?_
  refine ez_for T.c (fun k (a : Unit) => ([(3, .int (nI k)), (2, .int (zws T s k)), (0, .ref 112), (1, .int s)], (n, sl, kd, I, L, Rf))) (fun k a => True) ?_ ?_ T.c 0 () (by omega) trivial
  · intro k a hk hinv ih
    show ez_P _ _ _ _ _ _ 4 [(3, .int (nI k)), (2, .int (zws T s k)), (0, .ref 112), (1, .int s)] [] (n, sl, kd, I, L, Rf) _
    refine ez_iload_n (i := 3) dX11_weightsOf_4 rfl rfl ?_
    refine ez_aload_n (i := 0) dX11_weightsOf_5 rfl rfl ?_
    refine ez_getI dX11_weightsOf_6 flX11_95 (hF.lt (by decide)) (hF.kc (by decide) rfl) ?_
    refine ez_topE (y := nI T.c) (hQ.M.c.trans (congrArg nI hT.2.2.2.2.1.symm)) ?_
    refine ez_icmp_ge (tgt := 42) dX11_weightsOf_9 (by decide) (fun c1 => absurd c1 (nI_ge hk (by omega))) (fun c1 => ?_)
    refine ez_iload_n (i := 2) dX11_weightsOf_12 rfl rfl ?_
    refine ez_iload_n (i := 1) dX11_weightsOf_13 rfl rfl ?_
    refine ez_iload_n (i := 3) dX11_weightsOf_14 rfl rfl ?_
    refine ez_callS (M1 := mX11_has) (rest := [.int (zws T s k)]) dX11_weightsOf_15 mlX11_306 msX11_has rfl (Nat.le_of_ble_eq_true rfl) rfl (zq_b (q_X11_has (d + 349) s (nI k)) (n, sl, kd, I, L, Rf)) eb_bok ?_
    rintro _ _ ⟨rfl, ⟨b2, rfl⟩ | ⟨b2, rfl⟩⟩
    · show ez_P _ _ _ _ _ _ 18 [(3, .int (nI k)), (2, .int (zws T s k)), (0, .ref 112), (1, .int s)] (.int 1 :: [.int (zws T s k)]) _ _
      refine ez_if_eq (tgt := 33) dX11_weightsOf_18 (by decide) (fun c3 => absurd c3 (by decide)) (fun c3 => ?_)
      refine ez_aload_n (i := 0) dX11_weightsOf_21 rfl rfl ?_
      refine ez_aload_n (i := 0) dX11_weightsOf_22 rfl rfl ?_
      refine ez_getR dX11_weightsOf_23 flX11_9 (hF.lt (by decide)) (hF.kc (by decide) rfl) (hF.pt 107 rfl) ?_
      refine ez_iload_n (i := 3) dX11_weightsOf_26 rfl rfl ?_
      refine ez_callV (M1 := mX11_weightOf) (rest := [.int (zws T s k)]) dX11_weightsOf_27 mlX11_204 mvX11_weightOf rfl (hF.lt (by decide)) (hF.kc (by decide) rfl) (Nat.le_of_ble_eq_true rfl) rfl (y_wt (I := I) (L := L) (d + 43) (hQ.W (T := T) hT) hc7 (Or.inl rfl) (hQ.Mx hT) hO.x (by omega) (by omega)) eb_rok ?_
      rintro _ _ ⟨rfl, rfl⟩
      show ez_P _ _ _ _ _ _ 30 [(3, .int (nI k)), (2, .int (zws T s k)), (0, .ref 112), (1, .int s)] (.int (zwt T T.x k) :: [.int (zws T s k)]) _ _
      refine ez_goto (tgt := 34) dX11_weightsOf_30 (by decide) ?_
      refine ez_iadd dX11_weightsOf_34 ?_
      refine ez_istore_n (l' := [(2, .int ((zws T s k) + (zwt T T.x k))), (3, .int (nI k)), (0, .ref 112), (1, .int s)]) dX11_weightsOf_35 rfl (by decide) rfl ?_
      refine ez_iinc (v := (nI (k + 1))) (l' := [(3, .int ((nI (k + 1)))), (2, .int ((zws T s k) + (zwt T T.x k))), (0, .ref 112), (1, .int s)]) dX11_weightsOf_36 rfl (nI_1 _) (by decide) rfl ?_
      refine ez_goto (tgt := 4) dX11_weightsOf_39 (by decide) ?_
      exact ez_eq (l2 := [(3, .int (nI (k + 1))), (2, .int (zws T s (k + 1))), (0, .ref 112), (1, .int s)]) rfl (by rw [zws, if_pos b2]) rfl rfl (ih () trivial)
    · show ez_P _ _ _ _ _ _ 18 [(3, .int (nI k)), (2, .int (zws T s k)), (0, .ref 112), (1, .int s)] (.int 0 :: [.int (zws T s k)]) _ _
      refine ez_if_eq (tgt := 33) dX11_weightsOf_18 (by decide) (fun c4 => ?_) (fun c4 => absurd (by decide) c4)
      refine ez_iconst (v := 0) dX11_weightsOf_33 (by decide) ?_
      refine ez_iadd dX11_weightsOf_34 ?_
      refine ez_istore_n (l' := [(2, .int ((zws T s k) + 0)), (3, .int (nI k)), (0, .ref 112), (1, .int s)]) dX11_weightsOf_35 rfl (by decide) rfl ?_
      refine ez_iinc (v := (nI (k + 1))) (l' := [(3, .int ((nI (k + 1)))), (2, .int ((zws T s k) + 0)), (0, .ref 112), (1, .int s)]) dX11_weightsOf_36 rfl (nI_1 _) (by decide) rfl ?_
      refine ez_goto (tgt := 4) dX11_weightsOf_39 (by decide) ?_
      exact ez_eq (l2 := [(3, .int (nI (k + 1))), (2, .int (zws T s (k + 1))), (0, .ref 112), (1, .int s)]) rfl (by rw [zws, if_neg b2]) rfl rfl (ih () trivial)
  · intro a hinv
    show ez_P _ _ _ _ _ _ 4 [(3, .int (nI T.c)), (2, .int (zws T s T.c)), (0, .ref 112), (1, .int s)] [] (n, sl, kd, I, L, Rf) _
    refine ez_iload_n (i := 3) dX11_weightsOf_4 rfl rfl ?_
    refine ez_aload_n (i := 0) dX11_weightsOf_5 rfl rfl ?_
    refine ez_getI dX11_weightsOf_6 flX11_95 (hF.lt (by decide)) (hF.kc (by decide) rfl) ?_
    refine ez_topE (y := nI T.c) (hQ.M.c.trans (congrArg nI hT.2.2.2.2.1.symm)) ?_
    refine ez_icmp_ge (tgt := 42) dX11_weightsOf_9 (by decide) (fun c5 => ?_) (fun c5 => absurd (nI_le (Nat.le_refl _) (by omega)) c5)
    refine ez_iload_n (i := 2) dX11_weightsOf_42 rfl rfl ?_
    refine ez_iret dX11_weightsOf_43 rfl rfl ?_
    exact ⟨rfl, rfl⟩
theorem y_X11_differing {n : Nat} {sl : Nat × Nat} {kd : Nat → Nat × Nat} {I : Nat → Nat → Int32} {L : Nat → Nat → Int64} {Rf : Nat → Nat → Option Nat} (d : Nat) {T T1 : zT} {H : Nat} {I0 g : Nat → Nat → Int32} {L0 : Nat → Nat → Int64} {x : Nat → Int32} {o : Int32} (hQ : zQ n kd I0 L0 Rf g I L T1 x o) (hT : zsm T T1) (hO : zOk H T) (hH : H ≤ 1000000000) (s : Int32)  : zq mX11_differing (d + 351) [.ref 112, .int s] (n, sl, kd, I, L, Rf) (eb_r (zdf T s) (n, sl, kd, I, L, Rf)) := by
  have hF := hQ.M.F; have hc7 := hO.c
  intro f B
  refine ez_meth pn_X.2.2.2.2.2.2.2.2.2.2.2 (Nat.le_of_ble_eq_true rfl) ?_
  show ez_P _ _ _ _ _ _ 0 [(0, .ref 112), (1, .int s)] [] (n, sl, kd, I, L, Rf) _
  refine ez_aload_n (i := 0) dX11_differing_0 rfl rfl ?_
  refine ez_aload_n (i := 0) dX11_differing_1 rfl rfl ?_
  refine ez_callV (M1 := mX11_all) (rest := [.ref 112]) dX11_differing_2 mlX11_310 mvX11_all rfl (hF.lt (by decide)) (hF.kc (by decide) rfl) (Nat.le_of_ble_eq_true rfl) rfl (y_allT (I := I) (L := L) (d + 350) hF (T := T) (hQ.M.c.trans (congrArg nI hT.2.2.2.2.1.symm))) eb_rok ?_
  rintro _ _ ⟨rfl, rfl⟩
  show ez_P _ _ _ _ _ _ 5 [(0, .ref 112), (1, .int s)] (.int (zal T) :: [.ref 112]) _ _
  refine ez_callV (M1 := mX11_weightsOf) (rest := []) dX11_differing_5 mlX11_313 mvX11_weightsOf rfl (hF.lt (by decide)) (hF.kc (by decide) rfl) (Nat.le_of_ble_eq_true rfl) rfl (y_X11_weightsOf (T := T) (I := I) (L := L) (d + 0) hQ hT hO hH (zal T)) eb_rok ?_
  rintro _ _ ⟨rfl, rfl⟩
  show ez_P _ _ _ _ _ _ 8 [(0, .ref 112), (1, .int s)] (.int (zws T (zal T) T.c) :: []) _ _
  refine ez_iconst (v := 2) dX11_differing_8 (by decide) ?_
  refine ez_aload_n (i := 0) dX11_differing_9 rfl rfl ?_
  refine ez_iload_n (i := 1) dX11_differing_10 rfl rfl ?_
  refine ez_callV (M1 := mX11_weightsOf) (rest := [.int 2, .int (zws T (zal T) T.c)]) dX11_differing_11 mlX11_313 mvX11_weightsOf rfl (hF.lt (by decide)) (hF.kc (by decide) rfl) (Nat.le_of_ble_eq_true rfl) rfl (y_X11_weightsOf (T := T) (I := I) (L := L) (d + 0) hQ hT hO hH s) eb_rok ?_
  rintro _ _ ⟨rfl, rfl⟩
  show ez_P _ _ _ _ _ _ 14 [(0, .ref 112), (1, .int s)] (.int (zws T s T.c) :: [.int 2, .int (zws T (zal T) T.c)]) _ _
  refine ez_imul dX11_differing_14 ?_
  refine ez_isub dX11_differing_15 ?_
  refine ez_abs dX11_differing_16 xmX11_192 (Nat.le_of_ble_eq_true rfl) ?_
  refine ez_topE (y := zdf T s) rfl ?_
  refine ez_iret dX11_differing_19 rfl rfl ?_
  exact ⟨rfl, rfl⟩
def b_parties (T : zT) (k : Nat) (a : Int32) : Int32 := if zdf T a ≤ zdf T (nI (k + 1)) then a else nI (k + 1)
def a_parties (T : zT) : Nat → Int32
  | 0 => 0
  | k + 1 => b_parties T k (a_parties T k)
def s_parties (T : zT) : Int32 × zT := (zdf T (a_parties T (zN T)), T.w_rw [(a_parties T (zN T)).toInt64, (zws T (a_parties T (zN T)) T.c).toInt64])
theorem y_X11_parties {n : Nat} {sl : Nat × Nat} {kd : Nat → Nat × Nat} {I : Nat → Nat → Int32} {L : Nat → Nat → Int64} {Rf : Nat → Nat → Option Nat} (d : Nat) {T : zT} {H : Nat} (hM : zM n kd I L Rf T) (hO : zOk H T) (hH : H ≤ 1000000000)  : zq mX11_parties (d + 400) [.ref 112] (n, sl, kd, I, L, Rf) (zpM n sl kd I L Rf (some (.int (s_parties T).1)) (s_parties T).2) := by
  have hF := hM.F; have hc7 := hO.c
  intro f B
  refine ez_meth pn_X.2.2.2.2.2.2.2.2.2.2.2 (Nat.le_of_ble_eq_true rfl) ?_
  have hN := zN_le hO.c
  show ez_P _ _ _ _ _ _ 0 [(0, .ref 112)] [] (n, sl, kd, I, L, Rf) _
  refine ez_aload_n (i := 0) dX11_parties_0 rfl rfl ?_
  refine ez_iconst (v := 0) dX11_parties_1 (by decide) ?_
  refine ez_pI dX11_parties_2 plX11_89 (hF.lt (by decide)) (hF.lx (by decide)) (hF.kc (by decide) rfl) rfl rfl ?_
  refine ez_nmI (fun I1 hI1 => ?_)
  have hQ2 : zQ n kd I L Rf I I1 L T (I 124) (I 112 25) := by rw [hI1]; exact zQ.start hM
  refine ez_iconst (v := 0) dX11_parties_5 (by decide) ?_
  refine ez_istore_n (l' := [(1, .int 0), (0, .ref 112)]) dX11_parties_6 rfl (by decide) rfl ?_
  refine ez_iconst (v := 1) dX11_parties_7 (by decide) ?_
  refine ez_istore_n (l' := [(2, .int 1), (1, .int 0), (0, .ref 112)]) dX11_parties_8 rfl (by decide) rfl ?_
  refine ez_eq (l2 := [(2, .int (nI (0 + 1))), (1, .int 0), (0, .ref 112)]) (σ2 := (n, sl, kd, I1, L, Rf)) rfl rfl rfl rfl ?_
  refine ez_for (zN T) (fun k (a : (Nat → Nat → Int32) × (Nat → Nat → Int64) × Int32 × Int32) => ([(2, .int (nI (k + 1))), (1, .int a.2.2.2), (0, .ref 112)], (n, sl, kd, a.1, a.2.1, Rf))) (fun k a => zQ n kd I L Rf I a.1 a.2.1 T (I 124) a.2.2.1 ∧ a.2.2.2 = a_parties T k) ?_ ?_ (zN T) 0 (I1, L, I 112 25, 0) (by omega) ⟨hQ2, rfl⟩
  · rintro k ⟨Ia, La, oa, bb⟩ hk ⟨hQ0, hac⟩ ih
    have hQ0 : zQ n kd I L Rf I Ia La T (I 124) oa := hQ0
    have hac : bb = a_parties T k := hac
    show ez_P _ _ _ _ _ _ 9 [(2, .int (nI (k + 1))), (1, .int bb), (0, .ref 112)] [] (n, sl, kd, Ia, La, Rf) _
    refine ez_iload_n (i := 2) dX11_parties_9 rfl rfl ?_
    refine ez_aload_n (i := 0) dX11_parties_10 rfl rfl ?_
    refine ez_callV (M1 := mX11_all) (rest := [.int (nI (k + 1))]) dX11_parties_11 mlX11_310 mvX11_all rfl (hF.lt (by decide)) (hF.kc (by decide) rfl) (Nat.le_of_ble_eq_true rfl) rfl (y_allT (I := Ia) (L := La) (d + 399) hF (T := T) hQ0.M.c) eb_rok ?_
    rintro _ _ ⟨rfl, rfl⟩
    show ez_P _ _ _ _ _ _ 14 [(2, .int (nI (k + 1))), (1, .int bb), (0, .ref 112)] (.int (zal T) :: [.int (nI (k + 1))]) _ _
    refine ez_icmp_gt (tgt := 42) dX11_parties_14 (by decide) (fun c3 => absurd c3 (Int32.not_lt.mpr (nI_le (by omega) (by omega)))) (fun c3 => ?_)
    refine ez_aload_n (i := 0) dX11_parties_17 rfl rfl ?_
    refine ez_iload_n (i := 2) dX11_parties_18 rfl rfl ?_
    refine ez_callV (M1 := mX11_differing) (rest := []) dX11_parties_19 mlX11_316 mvX11_differing rfl (hF.lt (by decide)) (hF.kc (by decide) rfl) (Nat.le_of_ble_eq_true rfl) rfl (y_X11_differing (T := T) (I := Ia) (L := La) (d + 48) hQ0 ⟨rfl, rfl, rfl, rfl, rfl, rfl⟩ hO hH (nI (k + 1))) eb_rok ?_
    rintro _ _ ⟨rfl, rfl⟩
    show ez_P _ _ _ _ _ _ 22 [(2, .int (nI (k + 1))), (1, .int bb), (0, .ref 112)] (.int (zdf T (nI (k + 1))) :: []) _ _
    refine ez_aload_n (i := 0) dX11_parties_22 rfl rfl ?_
    refine ez_iload_n (i := 1) dX11_parties_23 rfl rfl ?_
    refine ez_callV (M1 := mX11_differing) (rest := [.int (zdf T (nI (k + 1)))]) dX11_parties_24 mlX11_316 mvX11_differing rfl (hF.lt (by decide)) (hF.kc (by decide) rfl) (Nat.le_of_ble_eq_true rfl) rfl (y_X11_differing (T := T) (I := Ia) (L := La) (d + 48) hQ0 ⟨rfl, rfl, rfl, rfl, rfl, rfl⟩ hO hH bb) eb_rok ?_
    rintro _ _ ⟨rfl, rfl⟩
    show ez_P _ _ _ _ _ _ 27 [(2, .int (nI (k + 1))), (1, .int bb), (0, .ref 112)] (.int (zdf T bb) :: [.int (zdf T (nI (k + 1)))]) _ _
    refine ez_icmp_ge (tgt := 34) dX11_parties_27 (by decide) (fun c4 => ?_) (fun c4 => ?_)
    · skip
      refine ez_iload_n (i := 1) dX11_parties_34 rfl rfl ?_
      refine ez_istore_n (l' := [(1, .int bb), (2, .int (nI (k + 1))), (0, .ref 112)]) dX11_parties_35 rfl (by decide) rfl ?_
      refine ez_iinc (v := (nI (k + 2))) (l' := [(2, .int ((nI (k + 2)))), (1, .int bb), (0, .ref 112)]) dX11_parties_36 rfl (nI_1 _) (by decide) rfl ?_
      refine ez_goto (tgt := 9) dX11_parties_39 (by decide) ?_
      exact ez_eq (l2 := [(2, .int (nI (k + 1 + 1))), (1, .int bb), (0, .ref 112)]) rfl rfl rfl rfl (ih (Ia, La, oa, bb) ⟨hQ0, (by rw [a_parties, ← hac, b_parties]; simp only [if_pos c4])⟩)
    · skip
      refine ez_iload_n (i := 2) dX11_parties_30 rfl rfl ?_
      refine ez_goto (tgt := 35) dX11_parties_31 (by decide) ?_
      refine ez_istore_n (l' := [(1, .int (nI (k + 1))), (2, .int (nI (k + 1))), (0, .ref 112)]) dX11_parties_35 rfl (by decide) rfl ?_
      refine ez_iinc (v := (nI (k + 2))) (l' := [(2, .int ((nI (k + 2)))), (1, .int (nI (k + 1))), (0, .ref 112)]) dX11_parties_36 rfl (nI_1 _) (by decide) rfl ?_
      refine ez_goto (tgt := 9) dX11_parties_39 (by decide) ?_
      exact ez_eq (l2 := [(2, .int (nI (k + 1 + 1))), (1, .int (nI (k + 1))), (0, .ref 112)]) rfl rfl rfl rfl (ih (Ia, La, oa, nI (k + 1)) ⟨hQ0, (by rw [a_parties, ← hac, b_parties]; simp only [if_neg c4])⟩)
  · rintro ⟨Ia, La, oa, bb⟩ ⟨hQ0, hac⟩
    have hQ0 : zQ n kd I L Rf I Ia La T (I 124) oa := hQ0
    have hac : bb = a_parties T (zN T) := hac
    show ez_P _ _ _ _ _ _ 9 [(2, .int (nI ((zN T) + 1))), (1, .int bb), (0, .ref 112)] [] (n, sl, kd, Ia, La, Rf) _
    refine ez_iload_n (i := 2) dX11_parties_9 rfl rfl ?_
    refine ez_aload_n (i := 0) dX11_parties_10 rfl rfl ?_
    refine ez_callV (M1 := mX11_all) (rest := [.int (nI ((zN T) + 1))]) dX11_parties_11 mlX11_310 mvX11_all rfl (hF.lt (by decide)) (hF.kc (by decide) rfl) (Nat.le_of_ble_eq_true rfl) rfl (y_allT (I := Ia) (L := La) (d + 399) hF (T := T) hQ0.M.c) eb_rok ?_
    rintro _ _ ⟨rfl, rfl⟩
    show ez_P _ _ _ _ _ _ 14 [(2, .int (nI ((zN T) + 1))), (1, .int bb), (0, .ref 112)] (.int (zal T) :: [.int (nI ((zN T) + 1))]) _ _
    refine ez_icmp_gt (tgt := 42) dX11_parties_14 (by decide) (fun c5 => ?_) (fun c5 => absurd (nI_lt (by omega) (by omega)) c5)
    refine ez_aload_n (i := 0) dX11_parties_42 rfl rfl ?_
    refine ez_iconst (v := 0) dX11_parties_43 (by decide) ?_
    refine ez_pI dX11_parties_44 plX11_92 (hF.lt (by decide)) (hF.lx (by decide)) (hF.kc (by decide) rfl) rfl rfl ?_
    refine ez_nmI (fun I6 hI6 => ?_)
    have hQ7 : zQ n kd I L Rf I I6 La (T.w_rw []) (I 124) oa := by rw [hI6]; exact hQ0.row0
    refine ez_aload_n (i := 0) dX11_parties_47 rfl rfl ?_
    refine ez_iload_n (i := 1) dX11_parties_48 rfl rfl ?_
    refine ez_i2l dX11_parties_49 rfl ?_
    refine ez_callV (M1 := mX11_tell) (rest := []) dX11_parties_50 mlX11_252 mvX11_tell rfl (hF.lt (by decide)) (hF.kc (by decide) rfl) (Nat.le_of_ble_eq_true rfl) rfl (y_X11_tell (I := I6) (L := La) (d + 399) hF (k := 0) hQ7.M.rw.1 (by decide) bb.toInt64) (eb_vok rfl) ?_
    rintro _ _ ⟨rfl, rfl⟩
    refine ez_nmI (fun I8 hI8 => ?_)
    refine ez_nmL (fun L9 hL9 => ?_)
    show ez_P _ _ _ _ _ _ 53 [(2, .int (nI ((zN T) + 1))), (1, .int bb), (0, .ref 112)] [] (n, sl, kd, I8, L9, Rf) _
    have hQ10 : zQ n kd I L Rf I I8 L9 (T.w_rw [bb.toInt64]) (I 124) oa := by rw [hI8, hL9]; exact hQ7.tell bb.toInt64
    refine ez_aload_n (i := 0) dX11_parties_53 rfl rfl ?_
    refine ez_aload_n (i := 0) dX11_parties_54 rfl rfl ?_
    refine ez_iload_n (i := 1) dX11_parties_55 rfl rfl ?_
    refine ez_callV (M1 := mX11_weightsOf) (rest := [.ref 112]) dX11_parties_56 mlX11_313 mvX11_weightsOf rfl (hF.lt (by decide)) (hF.kc (by decide) rfl) (Nat.le_of_ble_eq_true rfl) rfl (y_X11_weightsOf (T := T) (I := I8) (L := L9) (d + 49) hQ10 ⟨rfl, rfl, rfl, rfl, rfl, rfl⟩ hO hH bb) eb_rok ?_
    rintro _ _ ⟨rfl, rfl⟩
    show ez_P _ _ _ _ _ _ 59 [(2, .int (nI ((zN T) + 1))), (1, .int bb), (0, .ref 112)] (.int (zws T bb T.c) :: [.ref 112]) _ _
    refine ez_i2l dX11_parties_59 rfl ?_
    refine ez_callV (M1 := mX11_tell) (rest := []) dX11_parties_60 mlX11_252 mvX11_tell rfl (hF.lt (by decide)) (hF.kc (by decide) rfl) (Nat.le_of_ble_eq_true rfl) rfl (y_X11_tell (I := I8) (L := L9) (d + 399) hF (k := 1) hQ10.M.rw.1 (by decide) ((zws T bb T.c).toInt64)) (eb_vok rfl) ?_
    rintro _ _ ⟨rfl, rfl⟩
    refine ez_nmI (fun I11 hI11 => ?_)
    refine ez_nmL (fun L12 hL12 => ?_)
    show ez_P _ _ _ _ _ _ 63 [(2, .int (nI ((zN T) + 1))), (1, .int bb), (0, .ref 112)] [] (n, sl, kd, I11, L12, Rf) _
    have hQ13 : zQ n kd I L Rf I I11 L12 (T.w_rw [bb.toInt64, (zws T bb T.c).toInt64]) (I 124) oa := by rw [hI11, hL12]; exact hQ10.tell ((zws T bb T.c).toInt64)
    refine ez_aload_n (i := 0) dX11_parties_63 rfl rfl ?_
    refine ez_iload_n (i := 1) dX11_parties_64 rfl rfl ?_
    refine ez_callV (M1 := mX11_differing) (rest := []) dX11_parties_65 mlX11_316 mvX11_differing rfl (hF.lt (by decide)) (hF.kc (by decide) rfl) (Nat.le_of_ble_eq_true rfl) rfl (y_X11_differing (T := T) (I := I11) (L := L12) (d + 48) hQ13 ⟨rfl, rfl, rfl, rfl, rfl, rfl⟩ hO hH bb) eb_rok ?_
    rintro _ _ ⟨rfl, rfl⟩
    show ez_P _ _ _ _ _ _ 68 [(2, .int (nI ((zN T) + 1))), (1, .int bb), (0, .ref 112)] (.int (zdf T bb) :: []) _ _
    refine ez_iret dX11_parties_68 rfl rfl ?_
    rw [show s_parties T = (zdf T bb, T.w_rw [bb.toInt64, (zws T bb T.c).toInt64]) from by unfold s_parties; rw [← hac]]
    exact hQ13.end
def b_just (T : zT) (v : Int32) (k : Nat) (a : Int32 × Int32) : Int32 × Int32 := if zws T (nI k) T.c = v then (if a.1 = -1 then nI k else if z_bc a.1 ≤ z_bc (nI k) then a.1 else nI k, a.2 + 1) else a
def a_just (T : zT) (v : Int32) : Nat → Int32 × Int32
  | 0 => (-1, 0)
  | k + 1 => b_just T v k (a_just T v k)
def s_just (T : zT) (v : Int32) : Int32 × zT := if 0 ≤ v ∧ v ≤ 140 then (if (a_just T v (zN T + 1)).1 = -1 then (-2, T) else (z_bc (a_just T v (zN T + 1)).1, T.w_rw [(a_just T v (zN T + 1)).1.toInt64, (a_just T v (zN T + 1)).2.toInt64])) else (-1, T)
theorem y_X11_just_ok {n : Nat} {sl : Nat × Nat} {kd : Nat → Nat × Nat} {I : Nat → Nat → Int32} {L : Nat → Nat → Int64} {Rf : Nat → Nat → Option Nat} (d : Nat) {T : zT} {H : Nat} (hM : zM n kd I L Rf T) (hO : zOk H T) (hH : H ≤ 1000000000) {v : Int32} (hn : 0 ≤ v ∧ v ≤ 140)  : zq mX11_just (d + 400) [.ref 112, .int v] (n, sl, kd, I, L, Rf) (zpM n sl kd I L Rf (some (.int (s_just T v).1)) (s_just T v).2) := by
  have hF := hM.F; have hc7 := hO.c
  intro f B
  refine ez_meth pn_X.2.2.2.2.2.2.2.2.2.2.2 (Nat.le_of_ble_eq_true rfl) ?_
  have hN := zN_le hO.c
  show ez_P _ _ _ _ _ _ 0 [(0, .ref 112), (1, .int v)] [] (n, sl, kd, I, L, Rf) _
  refine ez_aload_n (i := 0) dX11_just_0 rfl rfl ?_
  refine ez_iconst (v := 0) dX11_just_1 (by decide) ?_
  refine ez_pI dX11_just_2 plX11_89 (hF.lt (by decide)) (hF.lx (by decide)) (hF.kc (by decide) rfl) rfl rfl ?_
  refine ez_nmI (fun I1 hI1 => ?_)
  have hQ2 : zQ n kd I L Rf I I1 L T (I 124) (I 112 25) := by rw [hI1]; exact zQ.start hM
  refine ez_iload_n (i := 1) dX11_just_5 rfl rfl ?_
  refine ez_iconst (v := 0) dX11_just_6 (by decide) ?_
  refine ez_sipush (v := 140) dX11_just_7 (by decide) ?_
  refine ez_callS (M1 := mX11_in) (rest := []) dX11_just_10 mlX11_98 msX11_in rfl (Nat.le_of_ble_eq_true rfl) rfl (zq_b1 hn (zq_b (q_X11_in (d + 399) v 0 140) (n, sl, kd, I1, L, Rf))) eb_rok ?_
  rintro _ _ ⟨rfl, rfl⟩
  show ez_P _ _ _ _ _ _ 13 [(0, .ref 112), (1, .int v)] (.int 1 :: []) _ _
  refine ez_if_ne (tgt := 18) dX11_just_13 (by decide) (fun c3 => ?_) (fun c3 => absurd (by decide) c3)
  refine ez_iconst (v := (-1)) dX11_just_18 (by decide) ?_
  refine ez_istore_n (l' := [(2, .int ((-1))), (0, .ref 112), (1, .int v)]) dX11_just_19 rfl (by decide) rfl ?_
  refine ez_iconst (v := 0) dX11_just_20 (by decide) ?_
  refine ez_istore_n (l' := [(3, .int 0), (2, .int ((-1))), (0, .ref 112), (1, .int v)]) dX11_just_21 rfl (by decide) rfl ?_
  refine ez_iconst (v := 0) dX11_just_22 (by decide) ?_
  refine ez_istore (l' := [(4, .int 0), (3, .int 0), (2, .int ((-1))), (0, .ref 112), (1, .int v)]) dX11_just_23 (by decide) rfl ?_
  refine ez_eq (l2 := [(4, .int (nI 0)), (3, .int 0), (2, .int ((-1))), (0, .ref 112), (1, .int v)]) (σ2 := (n, sl, kd, I1, L, Rf)) rfl rfl rfl rfl ?_
  refine ez_for (zN T + 1) (fun k (a : (Nat → Nat → Int32) × (Nat → Nat → Int64) × Int32 × Int32 × Int32) => ([(4, .int (nI k)), (3, .int a.2.2.2.2), (2, .int a.2.2.2.1), (0, .ref 112), (1, .int v)], (n, sl, kd, a.1, a.2.1, Rf))) (fun k a => zQ n kd I L Rf I a.1 a.2.1 T (I 124) a.2.2.1 ∧ (a.2.2.2.1, a.2.2.2.2) = a_just T v k) ?_ ?_ (zN T + 1) 0 (I1, L, I 112 25, (-1), 0) (by omega) ⟨hQ2, rfl⟩
  · rintro k ⟨Ia, La, oa, ja, jm⟩ hk ⟨hQ0, hac⟩ ih
    have hQ0 : zQ n kd I L Rf I Ia La T (I 124) oa := hQ0
    have hac : (ja, jm) = a_just T v k := hac
    show ez_P _ _ _ _ _ _ 25 [(4, .int (nI k)), (3, .int jm), (2, .int ja), (0, .ref 112), (1, .int v)] [] (n, sl, kd, Ia, La, Rf) _
    refine ez_iload (i := 4) dX11_just_25 rfl ?_
    refine ez_aload_n (i := 0) dX11_just_27 rfl rfl ?_
    refine ez_callV (M1 := mX11_all) (rest := [.int (nI k)]) dX11_just_28 mlX11_310 mvX11_all rfl (hF.lt (by decide)) (hF.kc (by decide) rfl) (Nat.le_of_ble_eq_true rfl) rfl (y_allT (I := Ia) (L := La) (d + 399) hF (T := T) hQ0.M.c) eb_rok ?_
    rintro _ _ ⟨rfl, rfl⟩
    show ez_P _ _ _ _ _ _ 31 [(4, .int (nI k)), (3, .int jm), (2, .int ja), (0, .ref 112), (1, .int v)] (.int (zal T) :: [.int (nI k)]) _ _
    refine ez_icmp_gt (tgt := 80) dX11_just_31 (by decide) (fun c4 => absurd c4 (Int32.not_lt.mpr (nI_le (by omega) (by omega)))) (fun c4 => ?_)
    refine ez_aload_n (i := 0) dX11_just_34 rfl rfl ?_
    refine ez_iload (i := 4) dX11_just_35 rfl ?_
    refine ez_callV (M1 := mX11_weightsOf) (rest := []) dX11_just_37 mlX11_313 mvX11_weightsOf rfl (hF.lt (by decide)) (hF.kc (by decide) rfl) (Nat.le_of_ble_eq_true rfl) rfl (y_X11_weightsOf (T := T) (I := Ia) (L := La) (d + 49) hQ0 ⟨rfl, rfl, rfl, rfl, rfl, rfl⟩ hO hH (nI k)) eb_rok ?_
    rintro _ _ ⟨rfl, rfl⟩
    show ez_P _ _ _ _ _ _ 40 [(4, .int (nI k)), (3, .int jm), (2, .int ja), (0, .ref 112), (1, .int v)] (.int (zws T (nI k) T.c) :: []) _ _
    refine ez_iload_n (i := 1) dX11_just_40 rfl rfl ?_
    refine ez_icmp_eq (tgt := 47) dX11_just_41 (by decide) (fun c5 => ?_) (fun c5 => ?_)
    · skip
      refine ez_iload_n (i := 2) dX11_just_47 rfl rfl ?_
      refine ez_iconst (v := (-1)) dX11_just_48 (by decide) ?_
      refine ez_icmp_eq (tgt := 64) dX11_just_49 (by decide) (fun c6 => ?_) (fun c6 => ?_)
      · skip
        refine ez_iload (i := 4) dX11_just_64 rfl ?_
        refine ez_goto (tgt := 70) dX11_just_66 (by decide) ?_
        refine ez_istore_n (l' := [(2, .int (nI k)), (4, .int (nI k)), (3, .int jm), (0, .ref 112), (1, .int v)]) dX11_just_70 rfl (by decide) rfl ?_
        refine ez_iinc (v := (jm + 1)) (l' := [(3, .int ((jm + 1))), (2, .int (nI k)), (4, .int (nI k)), (0, .ref 112), (1, .int v)]) dX11_just_71 rfl rfl (by decide) rfl ?_
        refine ez_iinc (v := (nI (k + 1))) (l' := [(4, .int ((nI (k + 1)))), (3, .int ((jm + 1))), (2, .int (nI k)), (0, .ref 112), (1, .int v)]) dX11_just_74 rfl (nI_1 _) (by decide) rfl ?_
        refine ez_goto (tgt := 25) dX11_just_77 (by decide) ?_
        exact ez_eq (l2 := [(4, .int (nI (k + 1))), (3, .int ((jm + 1))), (2, .int (nI k)), (0, .ref 112), (1, .int v)]) rfl rfl rfl rfl (ih (Ia, La, oa, nI k, (jm + 1)) ⟨hQ0, (by rw [a_just, ← hac, b_just]; simp only [if_pos c5, if_pos c6])⟩)
      · skip
        refine ez_iload (i := 4) dX11_just_52 rfl ?_
        refine ez_callS (M1 := mJ6_bitCount_0f7a4) (rest := []) dX11_just_54 mlX11_319 msJ6_bitCount_0f7a4 rfl (Nat.le_of_ble_eq_true rfl) rfl (zq_r (fun σ => q_J6_bitCount_0f7a4 (σ := σ) (d + 399) (nI k)) (n, sl, kd, Ia, La, Rf)) eb_rok ?_
        rintro _ _ ⟨rfl, rfl⟩
        show ez_P _ _ _ _ _ _ 57 [(4, .int (nI k)), (3, .int jm), (2, .int ja), (0, .ref 112), (1, .int v)] (.int (z_bc (nI k)) :: []) _ _
        refine ez_iload_n (i := 2) dX11_just_57 rfl rfl ?_
        refine ez_callS (M1 := mJ6_bitCount_0f7a4) (rest := [.int (z_bc (nI k))]) dX11_just_58 mlX11_319 msJ6_bitCount_0f7a4 rfl (Nat.le_of_ble_eq_true rfl) rfl (zq_r (fun σ => q_J6_bitCount_0f7a4 (σ := σ) (d + 399) ja) (n, sl, kd, Ia, La, Rf)) eb_rok ?_
        rintro _ _ ⟨rfl, rfl⟩
        show ez_P _ _ _ _ _ _ 61 [(4, .int (nI k)), (3, .int jm), (2, .int ja), (0, .ref 112), (1, .int v)] (.int (z_bc ja) :: [.int (z_bc (nI k))]) _ _
        refine ez_icmp_ge (tgt := 69) dX11_just_61 (by decide) (fun c7 => ?_) (fun c7 => ?_)
        · skip
          refine ez_iload_n (i := 2) dX11_just_69 rfl rfl ?_
          refine ez_istore_n (l' := [(2, .int ja), (4, .int (nI k)), (3, .int jm), (0, .ref 112), (1, .int v)]) dX11_just_70 rfl (by decide) rfl ?_
          refine ez_iinc (v := (jm + 1)) (l' := [(3, .int ((jm + 1))), (2, .int ja), (4, .int (nI k)), (0, .ref 112), (1, .int v)]) dX11_just_71 rfl rfl (by decide) rfl ?_
          refine ez_iinc (v := (nI (k + 1))) (l' := [(4, .int ((nI (k + 1)))), (3, .int ((jm + 1))), (2, .int ja), (0, .ref 112), (1, .int v)]) dX11_just_74 rfl (nI_1 _) (by decide) rfl ?_
          refine ez_goto (tgt := 25) dX11_just_77 (by decide) ?_
          exact ez_eq (l2 := [(4, .int (nI (k + 1))), (3, .int ((jm + 1))), (2, .int ja), (0, .ref 112), (1, .int v)]) rfl rfl rfl rfl (ih (Ia, La, oa, ja, (jm + 1)) ⟨hQ0, (by rw [a_just, ← hac, b_just]; simp only [if_pos c5, if_neg c6, if_pos c7])⟩)
        · skip
          refine ez_iload (i := 4) dX11_just_64 rfl ?_
          refine ez_goto (tgt := 70) dX11_just_66 (by decide) ?_
          refine ez_istore_n (l' := [(2, .int (nI k)), (4, .int (nI k)), (3, .int jm), (0, .ref 112), (1, .int v)]) dX11_just_70 rfl (by decide) rfl ?_
          refine ez_iinc (v := (jm + 1)) (l' := [(3, .int ((jm + 1))), (2, .int (nI k)), (4, .int (nI k)), (0, .ref 112), (1, .int v)]) dX11_just_71 rfl rfl (by decide) rfl ?_
          refine ez_iinc (v := (nI (k + 1))) (l' := [(4, .int ((nI (k + 1)))), (3, .int ((jm + 1))), (2, .int (nI k)), (0, .ref 112), (1, .int v)]) dX11_just_74 rfl (nI_1 _) (by decide) rfl ?_
          refine ez_goto (tgt := 25) dX11_just_77 (by decide) ?_
          exact ez_eq (l2 := [(4, .int (nI (k + 1))), (3, .int ((jm + 1))), (2, .int (nI k)), (0, .ref 112), (1, .int v)]) rfl rfl rfl rfl (ih (Ia, La, oa, nI k, (jm + 1)) ⟨hQ0, (by rw [a_just, ← hac, b_just]; simp only [if_pos c5, if_neg c6, if_neg c7])⟩)
    · skip
      refine ez_goto (tgt := 74) dX11_just_44 (by decide) ?_
      refine ez_iinc (v := (nI (k + 1))) (l' := [(4, .int ((nI (k + 1)))), (3, .int jm), (2, .int ja), (0, .ref 112), (1, .int v)]) dX11_just_74 rfl (nI_1 _) (by decide) rfl ?_
      refine ez_goto (tgt := 25) dX11_just_77 (by decide) ?_
      exact ez_eq (l2 := [(4, .int (nI (k + 1))), (3, .int jm), (2, .int ja), (0, .ref 112), (1, .int v)]) rfl rfl rfl rfl (ih (Ia, La, oa, ja, jm) ⟨hQ0, (by rw [a_just, ← hac, b_just]; simp only [if_neg c5])⟩)
  · rintro ⟨Ia, La, oa, ja, jm⟩ ⟨hQ0, hac⟩
    have hQ0 : zQ n kd I L Rf I Ia La T (I 124) oa := hQ0
    have hac : (ja, jm) = a_just T v (zN T + 1) := hac
    show ez_P _ _ _ _ _ _ 25 [(4, .int (nI (zN T + 1))), (3, .int jm), (2, .int ja), (0, .ref 112), (1, .int v)] [] (n, sl, kd, Ia, La, Rf) _
    refine ez_iload (i := 4) dX11_just_25 rfl ?_
    refine ez_aload_n (i := 0) dX11_just_27 rfl rfl ?_
    refine ez_callV (M1 := mX11_all) (rest := [.int (nI (zN T + 1))]) dX11_just_28 mlX11_310 mvX11_all rfl (hF.lt (by decide)) (hF.kc (by decide) rfl) (Nat.le_of_ble_eq_true rfl) rfl (y_allT (I := Ia) (L := La) (d + 399) hF (T := T) hQ0.M.c) eb_rok ?_
    rintro _ _ ⟨rfl, rfl⟩
    show ez_P _ _ _ _ _ _ 31 [(4, .int (nI (zN T + 1))), (3, .int jm), (2, .int ja), (0, .ref 112), (1, .int v)] (.int (zal T) :: [.int (nI (zN T + 1))]) _ _
    refine ez_icmp_gt (tgt := 80) dX11_just_31 (by decide) (fun c8 => ?_) (fun c8 => absurd (nI_lt (by omega) (by omega)) c8)
    refine ez_iload_n (i := 2) dX11_just_80 rfl rfl ?_
    refine ez_iconst (v := (-1)) dX11_just_81 (by decide) ?_
    refine ez_icmp_ne (tgt := 88) dX11_just_82 (by decide) (fun c9 => ?_) (fun c9 => ?_)
    · skip
      refine ez_aload_n (i := 0) dX11_just_88 rfl rfl ?_
      refine ez_iconst (v := 0) dX11_just_89 (by decide) ?_
      refine ez_pI dX11_just_90 plX11_92 (hF.lt (by decide)) (hF.lx (by decide)) (hF.kc (by decide) rfl) rfl rfl ?_
      refine ez_nmI (fun I10 hI10 => ?_)
      have hQ11 : zQ n kd I L Rf I I10 La (T.w_rw []) (I 124) oa := by rw [hI10]; exact hQ0.row0
      refine ez_aload_n (i := 0) dX11_just_93 rfl rfl ?_
      refine ez_iload_n (i := 2) dX11_just_94 rfl rfl ?_
      refine ez_i2l dX11_just_95 rfl ?_
      refine ez_callV (M1 := mX11_tell) (rest := []) dX11_just_96 mlX11_252 mvX11_tell rfl (hF.lt (by decide)) (hF.kc (by decide) rfl) (Nat.le_of_ble_eq_true rfl) rfl (y_X11_tell (I := I10) (L := La) (d + 399) hF (k := 0) hQ11.M.rw.1 (by decide) ja.toInt64) (eb_vok rfl) ?_
      rintro _ _ ⟨rfl, rfl⟩
      refine ez_nmI (fun I12 hI12 => ?_)
      refine ez_nmL (fun L13 hL13 => ?_)
      show ez_P _ _ _ _ _ _ 99 [(4, .int (nI (zN T + 1))), (3, .int jm), (2, .int ja), (0, .ref 112), (1, .int v)] [] (n, sl, kd, I12, L13, Rf) _
      have hQ14 : zQ n kd I L Rf I I12 L13 (T.w_rw [ja.toInt64]) (I 124) oa := by rw [hI12, hL13]; exact hQ11.tell ja.toInt64
      refine ez_aload_n (i := 0) dX11_just_99 rfl rfl ?_
      refine ez_iload_n (i := 3) dX11_just_100 rfl rfl ?_
      refine ez_i2l dX11_just_101 rfl ?_
      refine ez_callV (M1 := mX11_tell) (rest := []) dX11_just_102 mlX11_252 mvX11_tell rfl (hF.lt (by decide)) (hF.kc (by decide) rfl) (Nat.le_of_ble_eq_true rfl) rfl (y_X11_tell (I := I12) (L := L13) (d + 399) hF (k := 1) hQ14.M.rw.1 (by decide) jm.toInt64) (eb_vok rfl) ?_
      rintro _ _ ⟨rfl, rfl⟩
      refine ez_nmI (fun I15 hI15 => ?_)
      refine ez_nmL (fun L16 hL16 => ?_)
      show ez_P _ _ _ _ _ _ 105 [(4, .int (nI (zN T + 1))), (3, .int jm), (2, .int ja), (0, .ref 112), (1, .int v)] [] (n, sl, kd, I15, L16, Rf) _
      have hQ17 : zQ n kd I L Rf I I15 L16 (T.w_rw [ja.toInt64, jm.toInt64]) (I 124) oa := by rw [hI15, hL16]; exact hQ14.tell jm.toInt64
      refine ez_iload_n (i := 2) dX11_just_105 rfl rfl ?_
      refine ez_callS (M1 := mJ6_bitCount_0f7a4) (rest := []) dX11_just_106 mlX11_319 msJ6_bitCount_0f7a4 rfl (Nat.le_of_ble_eq_true rfl) rfl (zq_r (fun σ => q_J6_bitCount_0f7a4 (σ := σ) (d + 399) ja) (n, sl, kd, I15, L16, Rf)) eb_rok ?_
      rintro _ _ ⟨rfl, rfl⟩
      show ez_P _ _ _ _ _ _ 109 [(4, .int (nI (zN T + 1))), (3, .int jm), (2, .int ja), (0, .ref 112), (1, .int v)] (.int (z_bc ja) :: []) _ _
      refine ez_iret dX11_just_109 rfl rfl ?_
      rw [show s_just T v = (z_bc ja, T.w_rw [ja.toInt64, jm.toInt64]) from by unfold s_just; rw [if_pos hn, ← hac, if_neg (show ¬ ja = -1 from c9)]]
      exact hQ17.end
    · skip
      refine ez_bipush (v := (-2)) dX11_just_85 (by decide) ?_
      refine ez_iret dX11_just_87 rfl rfl ?_
      rw [show s_just T v = (-2, T) from by unfold s_just; rw [if_pos hn, ← hac, if_pos (show ja = -1 from Classical.not_not.mp c9)]]
      exact hQ0.end
theorem y_X11_just_no {n : Nat} {sl : Nat × Nat} {kd : Nat → Nat × Nat} {I : Nat → Nat → Int32} {L : Nat → Nat → Int64} {Rf : Nat → Nat → Option Nat} (d : Nat) {T : zT} {H : Nat} (hM : zM n kd I L Rf T) (hO : zOk H T) (hH : H ≤ 1000000000) {v : Int32} (hn : ¬ (0 ≤ v ∧ v ≤ 140))  : zq mX11_just (d + 400) [.ref 112, .int v] (n, sl, kd, I, L, Rf) (zpM n sl kd I L Rf (some (.int (s_just T v).1)) (s_just T v).2) := by
  have hF := hM.F; have hc7 := hO.c
  have hsp : s_just T v = ((-1), T) := (by unfold s_just; rw [if_neg hn])
  rw [hsp]
  intro f B
  refine ez_meth pn_X.2.2.2.2.2.2.2.2.2.2.2 (Nat.le_of_ble_eq_true rfl) ?_
  show ez_P _ _ _ _ _ _ 0 [(0, .ref 112), (1, .int v)] [] (n, sl, kd, I, L, Rf) _
  refine ez_aload_n (i := 0) dX11_just_0 rfl rfl ?_
  refine ez_iconst (v := 0) dX11_just_1 (by decide) ?_
  refine ez_pI dX11_just_2 plX11_89 (hF.lt (by decide)) (hF.lx (by decide)) (hF.kc (by decide) rfl) rfl rfl ?_
  refine ez_nmI (fun I1 hI1 => ?_)
  have hQ2 : zQ n kd I L Rf I I1 L T (I 124) (I 112 25) := by rw [hI1]; exact zQ.start hM
  refine ez_iload_n (i := 1) dX11_just_5 rfl rfl ?_
  refine ez_iconst (v := 0) dX11_just_6 (by decide) ?_
  refine ez_sipush (v := 140) dX11_just_7 (by decide) ?_
  refine ez_callS (M1 := mX11_in) (rest := []) dX11_just_10 mlX11_98 msX11_in rfl (Nat.le_of_ble_eq_true rfl) rfl (zq_b0 hn (zq_b (q_X11_in (d + 399) v 0 140) (n, sl, kd, I1, L, Rf))) eb_rok ?_
  rintro _ _ ⟨rfl, rfl⟩
  show ez_P _ _ _ _ _ _ 13 [(0, .ref 112), (1, .int v)] (.int 0 :: []) _ _
  refine ez_if_ne (tgt := 18) dX11_just_13 (by decide) (fun c3 => absurd c3 (by decide)) (fun c3 => ?_)
  refine ez_iconst (v := (-1)) dX11_just_16 (by decide) ?_
  refine ez_iret dX11_just_17 rfl rfl ?_
  exact hQ2.end
theorem y_X11_just {n : Nat} {sl : Nat × Nat} {kd : Nat → Nat × Nat} {I : Nat → Nat → Int32} {L : Nat → Nat → Int64} {Rf : Nat → Nat → Option Nat} (d : Nat) {T : zT} {H : Nat} (hM : zM n kd I L Rf T) (hO : zOk H T) (hH : H ≤ 1000000000) (v : Int32) : zq mX11_just (d + 400) [.ref 112, .int v] (n, sl, kd, I, L, Rf) (zpM n sl kd I L Rf (some (.int (s_just T v).1)) (s_just T v).2) := by
  by_cases hn : 0 ≤ v ∧ v ≤ 140
  · exact y_X11_just_ok d hM hO hH hn
  · exact y_X11_just_no d hM hO hH hn
