/-! the reference: hours on a row; a question's state -/
theorem y_X11_goHourBy {n : Nat} {sl : Nat × Nat} {kd : Nat → Nat × Nat} {I : Nat → Nat → Int32} {L : Nat → Nat → Int64} {Rf : Nat → Nat → Option Nat} (d : Nat) {T : zT} (hW : zW n kd I Rf T) (hc7 : T.c ≤ 7) {H : Nat} {p : Nat} (hp : p = 113 ∨ p = 124) {x : Nat → Int32} (hx : ∀ k, k < 26 → I p k = x k) (hxr : zxr T.c H x) (hH : H ≤ 2147483648) {wd : Int32} (hwr : z_wr wd) : zq mX11_goHourBy (d + 309) [.ref 112, .ref p, .int wd] (n, sl, kd, I, L, Rf) (zpH n sl kd I L Rf p (zh1 T wd x) (I 112 25 + zho T wd x)) := by
  rcases hp with rfl | rfl
  · exact y_X11_goHourBy_113 d hW hc7 hx hxr hH hwr
  · exact y_X11_goHourBy_124 d hW hc7 hx hxr hH hwr
theorem y_X11_goHour {n : Nat} {sl : Nat × Nat} {kd : Nat → Nat × Nat} {I : Nat → Nat → Int32} {L : Nat → Nat → Int64} {Rf : Nat → Nat → Option Nat} (d : Nat) {T : zT} (hW : zW n kd I Rf T) (hc7 : T.c ≤ 7) {H : Nat} {p : Nat} (hp : p = 113 ∨ p = 124) {x : Nat → Int32} (hx : ∀ k, k < 26 → I p k = x k) (hxr : zxr T.c H x) (hH : H ≤ 2147483648) (hwm : 0 < T.wm ∧ T.wm ≤ 20) (hwd : ∀ k, k < T.wm → ∃ v, v < 19 ∧ T.wd k = nI v - 9)  : zq mX11_goHour (d + 310) [.ref 112, .ref p] (n, sl, kd, I, L, Rf) (zpH n sl kd I L Rf p (zh1 T (zhw T x) x) (I 112 25 + zho T (zhw T x) x)) := by
  intro f B
  refine ez_meth pn_X.2.2.2.2.2.2.2.2.2.2.2 (Nat.le_of_ble_eq_true rfl) ?_
  have hF := hW.F
  obtain ⟨hr, hhr, ehr⟩ := hxr.h
  have ezw : zhw T x = T.wd (hr % T.wm) := by unfold zhw; rw [ehr, nI_clamp (by omega)]
  show ez_P _ _ _ _ _ _ 0 [(0, .ref 112), (1, .ref p)] [] (n, sl, kd, I, L, Rf) _
  refine ez_aload_n (i := 0) dX11_goHour_0 rfl rfl ?_
  refine ez_aload_n (i := 1) dX11_goHour_1 rfl rfl ?_
  refine ez_aload_n (i := 0) dX11_goHour_2 rfl rfl ?_
  refine ez_aload_n (i := 1) dX11_goHour_3 rfl rfl ?_
  refine ez_callV (M1 := mX11_windOf) (rest := [.ref p, .ref 112]) dX11_goHour_4 mlX11_211 mvX11_windOf rfl (hF.lt (by decide)) (hF.kc (by decide) rfl) (Nat.le_of_ble_eq_true rfl) rfl (y_X11_windOf (d + 309) hW hc7 hp hx hxr hH hwm ehr (by omega)) eb_rok ?_
  rintro _ _ ⟨rfl, rfl⟩
  show ez_P _ _ _ _ _ _ 7 [(0, .ref 112), (1, .ref p)] (.int (T.wd (hr % T.wm)) :: [.ref p, .ref 112]) _ _
  refine ez_callV (M1 := mX11_goHourBy) (rest := []) dX11_goHour_7 mlX11_238 mvX11_goHourBy rfl (hF.lt (by decide)) (hF.kc (by decide) rfl) (Nat.le_of_ble_eq_true rfl) rfl (y_X11_goHourBy d hW hc7 hp hx hxr hH (wd := T.wd (hr % T.wm)) (hwd _ (Nat.mod_lt _ hwm.1))) zpH_ok ?_
  rintro _ _ ⟨rfl, I1, rfl, hq⟩
  show ez_P _ _ _ _ _ _ 10 [(0, .ref 112), (1, .ref p)] [] (n, sl, kd, I1, L, Rf) _
  refine ez_vret dX11_goHour_10 rfl ?_
  rw [ezw]
  exact ⟨rfl, _, rfl, hq⟩
theorem y_X11_goHours {n : Nat} {sl : Nat × Nat} {kd : Nat → Nat × Nat} {I : Nat → Nat → Int32} {L : Nat → Nat → Int64} {Rf : Nat → Nat → Option Nat} (d : Nat) {T : zT} (hW : zW n kd I Rf T) (hc7 : T.c ≤ 7) {H : Nat} {p : Nat} (hp : p = 113 ∨ p = 124) {x : Nat → Int32} (hx : ∀ k, k < 26 → I p k = x k) (hxr : zxr T.c H x) {N : Nat} (hH : H + N ≤ 2147483648) (hN : N < 2147483648) (hwm : 0 < T.wm ∧ T.wm ≤ 20) (hwd : ∀ k, k < T.wm → ∃ v, v < 19 ∧ T.wd k = nI v - 9)  : zq mX11_goHours (d + 311) [.ref 112, .ref p, .int (nI N)] (n, sl, kd, I, L, Rf) (zpH n sl kd I L Rf p (zhk T x N) (zhc T x N)) := by
  intro f B
  refine ez_meth pn_X.2.2.2.2.2.2.2.2.2.2.2 (Nat.le_of_ble_eq_true rfl) ?_
  have hF := hW.F
  show ez_P _ _ _ _ _ _ 0 [(0, .ref 112), (1, .ref p), (2, .int (nI N))] [] (n, sl, kd, I, L, Rf) _
  refine ez_aload_n (i := 0) dX11_goHours_0 rfl rfl ?_
  refine ez_iconst (v := 0) dX11_goHours_1 (by decide) ?_
  refine ez_pI dX11_goHours_2 plX11_235 (hF.lt (by decide)) (hF.lx (by decide)) (hF.kc (by decide) rfl) rfl rfl ?_
  refine ez_nmI (fun I1 hI1 => ?_)
  refine ez_iconst (v := 0) dX11_goHours_5 (by decide) ?_
  refine ez_istore_n (l' := [(3, .int 0), (0, .ref 112), (1, .ref p), (2, .int (nI N))]) dX11_goHours_6 rfl (by decide) rfl ?_
  have hq0 : zhp I I1 p x 0 := ⟨fun k hk => by rw [hI1, z_set_ne (by omega)]; exact hx k hk, by rw [hI1, z_set_at], fun c _ h2 => by rw [hI1, z_set_ne h2], fun k hk => by rw [hI1, z_set_nk hk]⟩
  refine ez_eq (l2 := [(3, .int (nI 0)), (0, .ref 112), (1, .ref p), (2, .int (nI N))]) (σ2 := (n, sl, kd, I1, L, Rf)) rfl (by rw [nI_0]) rfl rfl ?_
  refine ez_for N (fun k (a : Nat → Nat → Int32) => ([(3, .int (nI k)), (0, .ref 112), (1, .ref p), (2, .int (nI N))], (n, sl, kd, a, L, Rf))) (fun k a => zhp I a p (zhk T x k) (zhc T x k)) ?_ ?_ N 0 I1 (by omega) hq0
  · intro k a hk hq ih
    show ez_P _ _ _ _ _ _ 7 [(3, .int (nI k)), (0, .ref 112), (1, .ref p), (2, .int (nI N))] [] (n, sl, kd, a, L, Rf) _
    refine ez_iload_n (i := 3) dX11_goHours_7 rfl rfl ?_
    refine ez_iload_n (i := 2) dX11_goHours_8 rfl rfl ?_
    refine ez_icmp_ge (tgt := 23) dX11_goHours_9 (by decide) (fun c2 => absurd c2 (nI_ge hk (by omega))) (fun c2 => ?_)
    refine ez_aload_n (i := 0) dX11_goHours_12 rfl rfl ?_
    refine ez_aload_n (i := 1) dX11_goHours_13 rfl rfl ?_
    refine ez_callV (M1 := mX11_goHour) (rest := []) dX11_goHours_14 mlX11_242 mvX11_goHour rfl (hF.lt (by decide)) (hF.kc (by decide) rfl) (Nat.le_of_ble_eq_true rfl) rfl (y_X11_goHour (I := a) d (hq.W hp hW) hc7 hp hq.1 (zhk_xr hxr hwm.1 hwd hc7 k) (by omega) hwm hwd) zpH_ok ?_
    rintro _ _ ⟨rfl, a1, rfl, hq1⟩
    show ez_P _ _ _ _ _ _ 17 [(3, .int (nI k)), (0, .ref 112), (1, .ref p), (2, .int (nI N))] [] (n, sl, kd, a1, L, Rf) _
    refine ez_iinc (v := (nI (k + 1))) (l' := [(3, .int ((nI (k + 1)))), (0, .ref 112), (1, .ref p), (2, .int (nI N))]) dX11_goHours_17 rfl (nI_1 _) (by decide) rfl ?_
    refine ez_goto (tgt := 7) dX11_goHours_20 (by decide) ?_
    refine ez_eq (l2 := [(3, .int (nI (k + 1))), (0, .ref 112), (1, .ref p), (2, .int (nI N))]) rfl rfl rfl rfl (ih a1 (hq.tr (by rw [hq.2.1] at hq1; exact hq1)))
  · intro a hq
    show ez_P _ _ _ _ _ _ 7 [(3, .int (nI N)), (0, .ref 112), (1, .ref p), (2, .int (nI N))] [] (n, sl, kd, a, L, Rf) _
    refine ez_iload_n (i := 3) dX11_goHours_7 rfl rfl ?_
    refine ez_iload_n (i := 2) dX11_goHours_8 rfl rfl ?_
    refine ez_icmp_ge (tgt := 23) dX11_goHours_9 (by decide) (fun c3 => ?_) (fun c3 => absurd (nI_le (Nat.le_refl _) (by omega)) c3)
    refine ez_vret dX11_goHours_23 rfl ?_
    exact ⟨rfl, _, rfl, hq⟩
theorem y_lay0 {n : Nat} {sl : Nat × Nat} {kd : Nat → Nat × Nat} {I : Nat → Nat → Int32} {L : Nat → Nat → Int64} {Rf : Nat → Nat → Option Nat} (d : Nat) (hF : zF n kd Rf) : zq mX11_lay d [.ref 113, .ref 124, .int 0] (n, sl, kd, I, L, Rf) (eb_v (n, sl, kd, z_l26 I 113 124 0 26, L, Rf)) := by
  have h := y_X11_lay (sl := sl) (I := I) (L := L) d hF (p := 113) (q := 124) (u := 0) (m := 26) ⟨hF.lt (by decide), hF.ka (by decide) rfl⟩ ⟨hF.lt (by decide), hF.ka (by decide) rfl, by decide⟩ (by decide) (by decide) (by decide)
  rw [nI_0] at h
  exact h
theorem z_l26_row {I : Nat → Nat → Int32} {x : Nat → Int32} (h : ∀ k, k < 26 → I 113 k = x k) : ∀ k, k < 26 → z_l26 I 113 124 0 26 124 k = x k := fun k hk => by
  unfold z_l26; rw [if_pos ⟨rfl, by omega, by omega⟩]; exact h k hk
theorem y_X11_goThen {n : Nat} {sl : Nat × Nat} {kd : Nat → Nat × Nat} {I : Nat → Nat → Int32} {L : Nat → Nat → Int64} {Rf : Nat → Nat → Option Nat} (d : Nat) {T : zT} (hW : zW n kd I Rf T) (hc7 : T.c ≤ 7) {H : Nat} {x : Nat → Int32} (hx : ∀ k, k < 26 → I 113 k = x k) (hxr : zxr T.c H x) {N : Nat} (hH : H + N ≤ 2147483648) (hN : N < 2147483648) (hwm : 0 < T.wm ∧ T.wm ≤ 20) (hwd : ∀ k, k < T.wm → ∃ v, v < 19 ∧ T.wd k = nI v - 9)  : zq mX11_goThen (d + 312) [.ref 112, .int (nI N)] (n, sl, kd, I, L, Rf) (zpH n sl kd I L Rf 124 (zhk T x N) (zhc T x N)) := by
  intro f B
  refine ez_meth pn_X.2.2.2.2.2.2.2.2.2.2.2 (Nat.le_of_ble_eq_true rfl) ?_
  have hF := hW.F
  show ez_P _ _ _ _ _ _ 0 [(0, .ref 112), (1, .int (nI N))] [] (n, sl, kd, I, L, Rf) _
  refine ez_aload_n (i := 0) dX11_goThen_0 rfl rfl ?_
  refine ez_getR dX11_goThen_1 flX11_9 (hF.lt (by decide)) (hF.kc (by decide) rfl) (hF.pt 107 rfl) ?_
  refine ez_aload_n (i := 0) dX11_goThen_4 rfl rfl ?_
  refine ez_getR dX11_goThen_5 flX11_49 (hF.lt (by decide)) (hF.kc (by decide) rfl) (hF.pt 117 rfl) ?_
  refine ez_iconst (v := 0) dX11_goThen_8 (by decide) ?_
  refine ez_callS (M1 := mX11_lay) (rest := []) dX11_goThen_9 mlX11_231 msX11_lay rfl (Nat.le_of_ble_eq_true rfl) rfl (y_lay0 (d + 311) hF) (eb_vok rfl) ?_
  rintro _ _ ⟨rfl, rfl⟩
  refine ez_nmI (fun I1 hI1 => ?_)
  show ez_P _ _ _ _ _ _ 12 [(0, .ref 112), (1, .int (nI N))] [] (n, sl, kd, I1, L, Rf) _
  refine ez_aload_n (i := 0) dX11_goThen_12 rfl rfl ?_
  refine ez_aload_n (i := 0) dX11_goThen_13 rfl rfl ?_
  refine ez_getR dX11_goThen_14 flX11_49 (hF.lt (by decide)) (hF.kc (by decide) rfl) (hF.pt 117 rfl) ?_
  refine ez_iload_n (i := 1) dX11_goThen_17 rfl rfl ?_
  refine ez_callV (M1 := mX11_goHours) (rest := []) dX11_goThen_18 mlX11_249 mvX11_goHours rfl (hF.lt (by decide)) (hF.kc (by decide) rfl) (Nat.le_of_ble_eq_true rfl) rfl (y_X11_goHours (I := I1) d (hW.fr hF rfl (fun c hc => by rw [hI1, z_l26_ne (by omega)]) (fun k hk => by rw [hI1, z_l26_ne (by omega)])) hc7 (Or.inr rfl) (by rw [hI1]; exact z_l26_row hx) hxr hH hN hwm hwd) zpH_ok ?_
  rintro _ _ ⟨rfl, a1, rfl, hq1⟩
  show ez_P _ _ _ _ _ _ 21 [(0, .ref 112), (1, .int (nI N))] [] (n, sl, kd, a1, L, Rf) _
  refine ez_vret dX11_goThen_21 rfl ?_
  exact ⟨rfl, _, rfl, hq1.1, hq1.2.1, fun c h1 h2 => by rw [hq1.2.2.1 c h1 h2, hI1, z_l26_ne h1], fun k hk => by rw [hq1.2.2.2 k hk, hI1, z_l26_ne (by decide)]⟩
def zgc (c : Nat) : Prop := c = 118 ∨ c = 120 ∨ c = 123 ∨ c = 125 ∨ c = 129 ∨ c = 132 ∨ c = 133
/-- a question's state: T; the row of hours to come x; overs o; other rows g -/
def zQ (n : Nat) (kd : Nat → Nat × Nat) (I0 : Nat → Nat → Int32) (L0 : Nat → Nat → Int64) (Rf : Nat → Nat → Option Nat) (g : Nat → Nat → Int32) (I : Nat → Nat → Int32) (L : Nat → Nat → Int64) (T : zT) (x : Nat → Int32) (o : Int32) : Prop := (zM n kd I L Rf T) ∧ (∀ k, k < 26 → I 124 k = x k) ∧ (I 112 25 = o) ∧ (I 112 9 = 0) ∧ (∀ c, c < 112 ∨ 136 < c → I c = I0 c ∧ L c = L0 c) ∧ ((∀ c, zgc c → I c = g c) ∧ I 112 37 = g 112 37)
theorem zQ.M {n : Nat} {kd : Nat → Nat × Nat} {I0 : Nat → Nat → Int32} {L0 : Nat → Nat → Int64} {Rf : Nat → Nat → Option Nat} {g : Nat → Nat → Int32} {I : Nat → Nat → Int32} {L : Nat → Nat → Int64} {T : zT} {x : Nat → Int32} {o : Int32} (h : zQ n kd I0 L0 Rf g I L T x o) : zM n kd I L Rf T := h.1
theorem zQ.x {n : Nat} {kd : Nat → Nat × Nat} {I0 : Nat → Nat → Int32} {L0 : Nat → Nat → Int64} {Rf : Nat → Nat → Option Nat} {g : Nat → Nat → Int32} {I : Nat → Nat → Int32} {L : Nat → Nat → Int64} {T : zT} {x : Nat → Int32} {o : Int32} (h : zQ n kd I0 L0 Rf g I L T x o) : ∀ k, k < 26 → I 124 k = x k := h.2.1
theorem zQ.o {n : Nat} {kd : Nat → Nat × Nat} {I0 : Nat → Nat → Int32} {L0 : Nat → Nat → Int64} {Rf : Nat → Nat → Option Nat} {g : Nat → Nat → Int32} {I : Nat → Nat → Int32} {L : Nat → Nat → Int64} {T : zT} {x : Nat → Int32} {o : Int32} (h : zQ n kd I0 L0 Rf g I L T x o) : I 112 25 = o := h.2.2.1
theorem zQ.t {n : Nat} {kd : Nat → Nat × Nat} {I0 : Nat → Nat → Int32} {L0 : Nat → Nat → Int64} {Rf : Nat → Nat → Option Nat} {g : Nat → Nat → Int32} {I : Nat → Nat → Int32} {L : Nat → Nat → Int64} {T : zT} {x : Nat → Int32} {o : Int32} (h : zQ n kd I0 L0 Rf g I L T x o) : I 112 9 = 0 := h.2.2.2.1
theorem zQ.f {n : Nat} {kd : Nat → Nat × Nat} {I0 : Nat → Nat → Int32} {L0 : Nat → Nat → Int64} {Rf : Nat → Nat → Option Nat} {g : Nat → Nat → Int32} {I : Nat → Nat → Int32} {L : Nat → Nat → Int64} {T : zT} {x : Nat → Int32} {o : Int32} (h : zQ n kd I0 L0 Rf g I L T x o) : ∀ c, c < 112 ∨ 136 < c → I c = I0 c ∧ L c = L0 c := h.2.2.2.2.1
theorem zQ.g {n : Nat} {kd : Nat → Nat × Nat} {I0 : Nat → Nat → Int32} {L0 : Nat → Nat → Int64} {Rf : Nat → Nat → Option Nat} {g : Nat → Nat → Int32} {I : Nat → Nat → Int32} {L : Nat → Nat → Int64} {T : zT} {x : Nat → Int32} {o : Int32} (h : zQ n kd I0 L0 Rf g I L T x o) : (∀ c, zgc c → I c = g c) ∧ I 112 37 = g 112 37 := h.2.2.2.2.2
section ZQL
variable {n : Nat} {sl : Nat × Nat} {kd : Nat → Nat × Nat} {I0 g I I1 : Nat → Nat → Int32} {L0 L : Nat → Nat → Int64} {Rf : Nat → Nat → Option Nat} {T : zT} {x : Nat → Int32} {o : Int32}
theorem zQ.start (h : zM n kd I L Rf T) : zQ n kd I L Rf I (z_set I 112 9 0) L T (I 124) (I 112 25) :=
  ⟨h.f9, fun k _ => by rw [z_set_ne (by decide)], z_set_nk (by decide), z_set_at, fun c hc => ⟨z_set_ne (by omega), rfl⟩, fun c hc => z_set_ne (by unfold zgc at hc; omega), z_set_nk (by decide)⟩
theorem zQ.lay (h : zQ n kd I0 L0 Rf g I L T x o) : zQ n kd I0 L0 Rf g (z_l26 I 113 124 0 26) L T T.x o :=
  ⟨h.M.fr h.M.F (fun c _ _ _ _ _ h6 _ _ _ _ => z_l26_ne h6) (fun k _ => by rw [z_l26_ne (by decide)]) rfl rfl, z_l26_row h.M.x, by rw [z_l26_ne (by decide)]; exact h.o, by rw [z_l26_ne (by decide)]; exact h.t, fun c hc => by rw [z_l26_ne (by omega)]; exact h.f c hc, fun c hc => by rw [z_l26_ne (by unfold zgc at hc; omega)]; exact h.g.1 c hc, by rw [z_l26_ne (by decide)]; exact h.g.2⟩
theorem zQ.hp {y : Nat → Int32} {q : Int32} (h : zQ n kd I0 L0 Rf g I L T x o) (e : zhp I I1 124 y q) : zQ n kd I0 L0 Rf g I1 L T y q :=
  ⟨h.M.fr h.M.F (fun c h1 _ _ _ _ h6 _ _ _ _ => e.2.2.1 c h6 h1) (fun k hk => e.2.2.2 k (by omega)) rfl rfl, e.1, e.2.1, (e.2.2.2 9 (by decide)).trans h.t, fun c hc => by rw [e.2.2.1 c (by omega) (by omega)]; exact h.f c hc, fun c hc => by rw [e.2.2.1 c (by unfold zgc at hc; omega) (by unfold zgc at hc; omega)]; exact h.g.1 c hc, (e.2.2.2 37 (by decide)).trans h.g.2⟩
theorem zQ.hpn {y : Nat → Int32} {q : Int32} (h : zQ n kd I0 L0 Rf g I L T x o) (e : zhp I I1 113 y q) : zQ n kd I0 L0 Rf g I1 L (T.w_x y) x q := by
  have hc : ∀ c, c ≠ 113 → c ≠ 112 → I1 c = I c := fun c h1 h2 => e.2.2.1 c h1 h2
  have hf : ∀ k, k ≠ 25 → I1 112 k = I 112 k := e.2.2.2
  refine ⟨⟨h.M.F, h.M.ru, ?_, ?_, ?_, ?_, ?_, ?_, ?_, e.1, ?_, ?_, ?_, ?_⟩, ?_, e.2.1, (hf 9 (by decide)).trans h.t, fun c hh => by rw [hc c (by omega) (by omega)]; exact h.f c hh, fun c hh => by rw [hc c (by unfold zgc at hh; omega) (by unfold zgc at hh; omega)]; exact h.g.1 c hh, (hf 37 (by decide)).trans h.g.2⟩
  · rw [hf 18 (by decide), hc 119 (by decide) (by decide)]; exact h.M.rv
  · rw [hf 6 (by decide), hc 116 (by decide) (by decide)]; exact h.M.tx
  · rw [hf 8 (by decide)]; exact h.M.rw
  · rw [hc 114 (by decide) (by decide)]; exact h.M.pr
  · rw [hf 4 (by decide)]; exact h.M.wm
  · rw [hc 115 (by decide) (by decide)]; exact h.M.wd
  · rw [hf 1 (by decide)]; exact h.M.c
  · rw [hf 22 (by decide), hc 122 (by decide) (by decide)]; exact h.M.un
  · rw [hf 38 (by decide), hc 134 (by decide) (by decide), hc 135 (by decide) (by decide), hc 136 (by decide) (by decide)]; exact h.M.kp
  · rw [hf 30 (by decide), hc 126 (by decide) (by decide), hc 127 (by decide) (by decide), hc 128 (by decide) (by decide)]; exact h.M.sn
  · rw [hf 34 (by decide), hc 130 (by decide) (by decide), hc 131 (by decide) (by decide)]; exact h.M.hd
  · rw [hc 124 (by decide) (by decide)]; exact h.x
/-- a field of the reference set that the state doesn't tell but o, t, g -/
theorem zQ.row0 (h : zQ n kd I0 L0 Rf g I L T x o) : zQ n kd I0 L0 Rf g (z_set I 112 8 0) L (T.w_rw []) x o := by
  have hf : ∀ k, k ≠ 8 → z_set I 112 8 0 112 k = I 112 k := fun k hk => z_set_nk hk
  have hc : ∀ c, c ≠ 112 → z_set I 112 8 0 c = I c := fun c h => z_set_ne h
  refine ⟨⟨h.M.F, h.M.ru, ?_, ?_, ⟨z_set_at.trans nI_0.symm, fun k hk => absurd hk (by exact Nat.not_lt_zero _)⟩, ?_, ?_, ?_, ?_, ?_, ?_, ?_, ?_, ?_⟩, ?_, ?_, (hf 9 (by decide)).trans h.t, fun c hh => by rw [hc c (by omega)]; exact h.f c hh, fun c hh => by rw [hc c (by unfold zgc at hh; omega)]; exact h.g.1 c hh, (hf 37 (by decide)).trans h.g.2⟩
  · rw [hf 18 (by decide), hc 119 (by decide)]; exact h.M.rv
  · rw [hf 6 (by decide), hc 116 (by decide)]; exact h.M.tx
  · rw [hc 114 (by decide)]; exact h.M.pr
  · rw [hf 4 (by decide)]; exact h.M.wm
  · rw [hc 115 (by decide)]; exact h.M.wd
  · rw [hf 1 (by decide)]; exact h.M.c
  · rw [hc 113 (by decide)]; exact h.M.x
  · rw [hf 22 (by decide), hc 122 (by decide)]; exact h.M.un
  · rw [hf 38 (by decide), hc 134 (by decide), hc 135 (by decide), hc 136 (by decide)]; exact h.M.kp
  · rw [hf 30 (by decide), hc 126 (by decide), hc 127 (by decide), hc 128 (by decide)]; exact h.M.sn
  · rw [hf 34 (by decide), hc 130 (by decide), hc 131 (by decide)]; exact h.M.hd
  · rw [hc 124 (by decide)]; exact h.x
  · rw [hf 25 (by decide)]; exact h.o
theorem z_setL_ne {L : Nat → Nat → Int64} {i k a : Nat} {v : Int64} (h : a ≠ i) : z_setL L i k v a = L a := by funext q; simp [z_setL, h]
theorem zQ.tell (h : zQ n kd I0 L0 Rf g I L T x o) (v : Int64) : zQ n kd I0 L0 Rf g (z_set I 112 8 (nI (T.rw.length + 1))) (z_setL L 117 T.rw.length v) (T.w_rw (T.rw ++ [v])) x o := by
  have hf : ∀ k, k ≠ 8 → z_set I 112 8 (nI (T.rw.length + 1)) 112 k = I 112 k := fun k hk => z_set_nk hk
  have hc : ∀ c, c ≠ 112 → z_set I 112 8 (nI (T.rw.length + 1)) c = I c := fun c h => z_set_ne h
  refine ⟨⟨h.M.F, h.M.ru, ?_, ?_, ⟨?_, fun k hk => ?_⟩, ?_, ?_, ?_, ?_, ?_, ?_, ?_, ?_, ?_⟩, ?_, ?_, (hf 9 (by decide)).trans h.t, fun c hh => by rw [hc c (by omega), z_setL_ne (by omega)]; exact h.f c hh, fun c hh => by rw [hc c (by unfold zgc at hh; omega)]; exact h.g.1 c hh, (hf 37 (by decide)).trans h.g.2⟩
  · rw [hf 18 (by decide), hc 119 (by decide)]; exact h.M.rv
  · rw [hf 6 (by decide), hc 116 (by decide)]; exact h.M.tx
  · rw [z_set_at]; show _ = nI (T.rw ++ [v]).length; rw [List.length_append]; rfl
  · have hk2 : k < T.rw.length + 1 := by have h9 : k < (T.rw ++ [v]).length := hk; rw [List.length_append] at h9; exact h9
    show z_setL L 117 T.rw.length v 117 k = (T.rw ++ [v]).getD k 0
    unfold z_setL
    by_cases e : k = T.rw.length
    · rw [if_pos ⟨rfl, e⟩, e]; simp [List.getD]
    · rw [if_neg (fun q => e q.2), h.M.rw.2 k (by omega)]
      simp only [List.getD]
      rw [List.getElem?_append_left (by omega)]
  · rw [hc 114 (by decide)]; exact h.M.pr
  · rw [hf 4 (by decide)]; exact h.M.wm
  · rw [hc 115 (by decide)]; exact h.M.wd
  · rw [hf 1 (by decide)]; exact h.M.c
  · rw [hc 113 (by decide)]; exact h.M.x
  · rw [hf 22 (by decide), hc 122 (by decide)]; exact h.M.un
  · rw [hf 38 (by decide), hc 134 (by decide), hc 135 (by decide), hc 136 (by decide)]; exact h.M.kp
  · rw [hf 30 (by decide), hc 126 (by decide), hc 127 (by decide), hc 128 (by decide)]; exact h.M.sn
  · rw [hf 34 (by decide), hc 130 (by decide), hc 131 (by decide)]; exact h.M.hd
  · rw [hc 124 (by decide)]; exact h.x
  · rw [hf 25 (by decide)]; exact h.o
theorem zQ.set {k : Nat} {v : Int32} (h : zQ n kd I0 L0 Rf g I L T x o) : zQ n kd I0 L0 Rf g (z_set I 124 k v) L T (zup x k v) o := by
  have hc : ∀ c, c ≠ 124 → z_set I 124 k v c = I c := fun c h => z_set_ne h
  refine ⟨h.M.fr h.M.F (fun c _ _ _ _ _ h6 _ _ _ _ => hc c h6) (fun k _ => by rw [hc 112 (by decide)]) rfl rfl, fun q hq => ?_, by rw [hc 112 (by decide)]; exact h.o, by rw [hc 112 (by decide)]; exact h.t, fun c hh => by rw [hc c (by omega)]; exact h.f c hh, fun c hh => by rw [hc c (by unfold zgc at hh; omega)]; exact h.g.1 c hh, by rw [hc 112 (by decide)]; exact h.g.2⟩
  unfold zup z_set
  by_cases e : q = k
  · rw [if_pos ⟨rfl, e⟩, if_pos e]
  · rw [if_neg (fun z => e z.2), if_neg e]; exact h.x q hq
theorem zQ.ov {v : Int32} (h : zQ n kd I0 L0 Rf g I L T x o) : zQ n kd I0 L0 Rf g (z_set I 112 25 v) L T x v := by
  have hf : ∀ k, k ≠ 25 → z_set I 112 25 v 112 k = I 112 k := fun k hk => z_set_nk hk
  have hc : ∀ c, c ≠ 112 → z_set I 112 25 v c = I c := fun c h => z_set_ne h
  exact ⟨h.M.fr h.M.F (fun c h1 _ _ _ _ _ _ _ _ _ => hc c h1) (fun k hk => hf k (by omega)) rfl rfl, fun q hq => by rw [hc 124 (by decide)]; exact h.x q hq, z_set_at, (hf 9 (by decide)).trans h.t, fun c hh => by rw [hc c (by omega)]; exact h.f c hh, fun c hh => by rw [hc c (by unfold zgc at hh; omega)]; exact h.g.1 c hh, (hf 37 (by decide)).trans h.g.2⟩
theorem zQ.dr {v : Int32} (h : zQ n kd I0 L0 Rf g I L T x o) : zQ n kd I0 L0 Rf (z_set g 112 37 v) (z_set I 112 37 v) L T x o := by
  have hf : ∀ k, k ≠ 37 → z_set I 112 37 v 112 k = I 112 k := fun k hk => z_set_nk hk
  have hc : ∀ c, c ≠ 112 → z_set I 112 37 v c = I c := fun c h => z_set_ne h
  exact ⟨h.M.fr h.M.F (fun c h1 _ _ _ _ _ _ _ _ _ => hc c h1) (fun k hk => hf k (by omega)) rfl rfl, fun q hq => by rw [hc 124 (by decide)]; exact h.x q hq, (hf 25 (by decide)).trans h.o, (hf 9 (by decide)).trans h.t, fun c hh => by rw [hc c (by omega)]; exact h.f c hh, fun c hh => by rw [hc c (by unfold zgc at hh; omega), z_set_ne (by unfold zgc at hh; omega)]; exact h.g.1 c hh, by rw [z_set_at, z_set_at]⟩
theorem zQ.gset {c k : Nat} {v : Int32} (hg : zgc c) (h : zQ n kd I0 L0 Rf g I L T x o) : zQ n kd I0 L0 Rf (z_set g c k v) (z_set I c k v) L T x o := by
  have hc : ∀ a, a ≠ c → z_set I c k v a = I a := fun a h => z_set_ne h
  have hg2 := hg
  unfold zgc at hg2
  refine ⟨h.M.fr h.M.F (fun a h1 h2 h3 h4 h5 h6 h7 h8 h9 h10 => hc a (by omega)) (fun k hk => by rw [hc 112 (by omega)]) rfl rfl, fun q hq => by rw [hc 124 (by omega)]; exact h.x q hq, by rw [hc 112 (by omega)]; exact h.o, by rw [hc 112 (by omega)]; exact h.t, fun a hh => by rw [hc a (by omega)]; exact h.f a hh, fun a hh => ?_, by rw [hc 112 (by omega), z_set_ne (by omega)]; exact h.g.2⟩
  by_cases e : a = c
  · subst e; funext q; unfold z_set; rw [h.g.1 a hg]
  · rw [hc a e, z_set_ne e]; exact h.g.1 a hh
/-- the state's end: what the call leaves -/
theorem zQ.end {v : Option Value} (h : zQ n kd I0 L0 Rf g I L T x o) : zpM n sl kd I0 L0 Rf v T v (n, sl, kd, I, L, Rf) := ⟨rfl, _, _, _, rfl, h.M, h.t, fun c hc => ⟨(h.f c hc).1, (h.f c hc).2, rfl⟩⟩
end ZQL
/-- an iteration -/
def zit {α : Type} (st : Nat → α → α) (a : α) : Nat → α
  | 0 => a
  | k + 1 => st k (zit st a k)
/-- the first of j numbers from k on -/
def zfd (p : Nat → Bool) : Nat → Nat → Option Nat
  | 0, _ => none
  | j + 1, k => if p k = true then some k else zfd p j (k + 1)
