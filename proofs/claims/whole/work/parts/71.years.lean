/-! years, on the reference and on the class -/
theorem z_u16 (x : Int32) : ∃ k, k < 65536 ∧ (x.toUInt32 >>> ((16 : Int32).toUInt32 &&& Int32.toUInt32 31)).toInt32 = nI k := by
  refine ⟨x.toUInt32.toNat >>> 16, ?_, ?_⟩
  · have h := x.toUInt32.toNat_lt
    rw [Nat.shiftRight_eq_div_pow]; omega
  · have h1 : (x.toUInt32 >>> ((16 : Int32).toUInt32 &&& Int32.toUInt32 31)).toNat = x.toUInt32.toNat >>> 16 := by
      rw [UInt32.toNat_shiftRight]; rfl
    apply Int32.toBitVec_inj.mp
    apply BitVec.eq_of_toNat_eq
    show (x.toUInt32 >>> ((16 : Int32).toUInt32 &&& Int32.toUInt32 31)).toNat = (BitVec.ofNat 32 (x.toUInt32.toNat >>> 16)).toNat
    rw [h1, BitVec.toNat_ofNat, Nat.mod_eq_of_lt]
    have h := x.toUInt32.toNat_lt
    rw [Nat.shiftRight_eq_div_pow]; omega
theorem z_dr_n (r : Int32) {m : Nat} (h0 : 0 < m) (hm : m < 2147483648) : ∃ q, q < m ∧ z_dr r (nI m) = nI q := by
  obtain ⟨k, hk, e⟩ := z_u16 r
  unfold z_dr
  rw [e, z_irm (by omega) hm h0]
  exact ⟨k % m, Nat.mod_lt _ h0, rfl⟩
/-- one draw: what was drawn, the row, how often over -/
def zyd (T : zT) (s : Int32 × (Nat → Int32) × Int32) : Int32 × (Nat → Int32) × Int32 :=
  if z_dr (z_lk s.1) 4 < 2 then (z_lk s.1, zh1 T (zhw T s.2.1) s.2.1, s.2.2 + zho T (zhw T s.2.1) s.2.1)
  else if z_dr (z_lk s.1) 4 = 2 then (z_lk (z_lk s.1), zup s.2.1 21 (z_dr (z_lk (z_lk s.1)) 10), s.2.2)
  else if T.c = 0 then (z_lk s.1, s.2.1, s.2.2)
  else (z_lk (z_lk (z_lk s.1)), zup s.2.1 (7 + (z_dr (z_lk (z_lk s.1)) (nI T.c)).toNatClampNeg) (z_dr (z_lk (z_lk (z_lk s.1))) 6), s.2.2)
def a_years (T : zT) (seed : Int32) : Nat → Int32 × (Nat → Int32) × Int32
  | 0 => (seed, T.x, 0)
  | k + 1 => zyd T (a_years T seed k)
def s_years (T : zT) (seed m : Int32) : Int32 × zT := if 1 ≤ m ∧ m ≤ 60 then (100 + (a_years T seed m.toNatClampNeg).2.1 22, T.w_rw [((a_years T seed m.toNatClampNeg).2.1 23 - T.x 23).toInt64, (a_years T seed m.toNatClampNeg).2.2.toInt64]) else (-1, T)
theorem zxr.mono {c H H2 : Nat} {x : Nat → Int32} (h : zxr c H x) (hH : H ≤ H2) : zxr c H2 x := ⟨h.g, h.t, h.p, h.s, h.l, h.lg, h.ov, by obtain ⟨k, h1, h2⟩ := h.h; exact ⟨k, by omega, h2⟩⟩
theorem zyd_xr {T : zT} {H H2 : Nat} (hO : zOk H T) {s : Int32 × (Nat → Int32) × Int32} (h : zxr T.c H2 s.2.1) : zxr T.c (H2 + 1) (zyd T s).2.1 := by
  unfold zyd
  split
  · exact zh1_xr h (zhw_wr hO.wm.1 hO.wd) hO.c
  · split
    · obtain ⟨q, h1, h2⟩ := z_dr_n (z_lk (z_lk s.1)) (m := 10) (by decide) (by decide)
      exact (h.sail hO.c ⟨q, h1, h2⟩).mono (by omega)
    · split
      · exact h.mono (by omega)
      · next h0 =>
        obtain ⟨q, h1, h2⟩ := z_dr_n (z_lk (z_lk (z_lk s.1))) (m := 6) (by decide) (by decide)
        obtain ⟨b, h3, h4⟩ := z_dr_n (z_lk (z_lk s.1)) (m := T.c) (by omega) (by have := hO.c; omega)
        have hc := hO.c
        refine (h.tho hO.c (b := (z_dr (z_lk (z_lk s.1)) (nI T.c)).toNatClampNeg) ?_ ⟨q, h1, h2⟩).mono (by omega)
        rw [h4, nI_clamp (by omega)]; omega
theorem a_years_xr {T : zT} {H : Nat} (hO : zOk H T) {seed : Int32} : ∀ k, zxr T.c (H + k) (a_years T seed k).2.1 := by
  intro k
  induction k with
  | zero => exact hO.x
  | succ k ih => exact zyd_xr hO ih
theorem z_d4 {r : Int32} (h1 : ¬ z_dr r 4 < 2) (h2 : ¬ z_dr r 4 = 2) : z_dr r 4 = 3 := by
  obtain ⟨q, hq, e⟩ := z_dr_n r (m := 4) (by decide) (by decide)
  have e : z_dr r 4 = nI q := e
  rw [e] at h1 h2 ⊢
  rcases (show q = 0 ∨ q = 1 ∨ q = 2 ∨ q = 3 by omega) with rfl | rfl | rfl | rfl
  · exact absurd (by decide) h1
  · exact absurd (by decide) h1
  · exact absurd (by decide) h2
  · rfl
theorem y_X11_draw {n : Nat} {sl : Nat × Nat} {kd : Nat → Nat × Nat} {I : Nat → Nat → Int32} {L : Nat → Nat → Int64} {Rf : Nat → Nat → Option Nat} (d : Nat) {T : zT} {H : Nat} {I0 g : Nat → Nat → Int32} {L0 : Nat → Nat → Int64} {x : Nat → Int32} {o : Int32} (hQ : zQ n kd I0 L0 Rf g I L T x o) (hO : zOk H T) (hH : H ≤ 1000000000) {m : Int32} (hm : ¬ m = 0)  : zq mX11_draw (d + 5) [.ref 112, .int m] (n, sl, kd, I, L, Rf) (fun r τ => r = some (.int (z_dr (z_lk (g 112 37)) m)) ∧ ∃ I1, τ = (n, sl, kd, I1, L, Rf) ∧ zQ n kd I0 L0 Rf (z_set g 112 37 (z_lk (g 112 37))) I1 L T x o) := by
  have hF := hQ.M.F; have hc7 := hO.c
  intro f B
  refine ez_meth pn_X.2.2.2.2.2.2.2.2.2.2.2 (Nat.le_of_ble_eq_true rfl) ?_
  show ez_P _ _ _ _ _ _ 0 [(0, .ref 112), (1, .int m)] [] (n, sl, kd, I, L, Rf) _
  refine ez_aload_n (i := 0) dX11_draw_0 rfl rfl ?_
  refine ez_aload_n (i := 0) dX11_draw_1 rfl rfl ?_
  refine ez_getI dX11_draw_2 flX11_374 (hF.lt (by decide)) (hF.kc (by decide) rfl) ?_
  refine ez_topE (y := g 112 37) hQ.g.2 ?_
  refine ez_ldcw (v := 1103515245) dX11_draw_5 kcX11_377 ?_
  refine ez_imul dX11_draw_8 ?_
  refine ez_sipush (v := 12345) dX11_draw_9 (by decide) ?_
  refine ez_iadd dX11_draw_12 ?_
  refine ez_topE (y := z_lk (g 112 37)) rfl ?_
  refine ez_pI dX11_draw_13 plX11_374 (hF.lt (by decide)) (hF.lx (by decide)) (hF.kc (by decide) rfl) rfl rfl ?_
  refine ez_nmI (fun I1 hI1 => ?_)
  have hQ2 : zQ n kd I0 L0 Rf (z_set g 112 37 (z_lk (g 112 37))) I1 L T x o := by rw [hI1]; exact hQ.dr
  refine ez_aload_n (i := 0) dX11_draw_16 rfl rfl ?_
  refine ez_getI dX11_draw_17 flX11_374 (hF.lt (by decide)) (hF.kc (by decide) rfl) ?_
  refine ez_topE (y := z_lk (g 112 37)) (hQ2.g.2.trans z_set_at) ?_
  refine ez_bipush (v := 16) dX11_draw_20 (by decide) ?_
  refine ez_iushr dX11_draw_22 rfl ?_
  refine ez_iload_n (i := 1) dX11_draw_23 rfl rfl ?_
  refine ez_irem dX11_draw_24 hm ?_
  refine ez_topE (y := z_dr (z_lk (g 112 37)) m) rfl ?_
  refine ez_iret dX11_draw_25 rfl rfl ?_
  exact ⟨rfl, _, rfl, hQ2⟩
theorem zyd_0 {T : zT} {s : Int32 × (Nat → Int32) × Int32} (h : z_dr (z_lk s.1) 4 < 2) : zyd T s = (z_lk s.1, zh1 T (zhw T s.2.1) s.2.1, s.2.2 + zho T (zhw T s.2.1) s.2.1) := by unfold zyd; rw [if_pos h]
theorem zyd_1 {T : zT} {s : Int32 × (Nat → Int32) × Int32} (h : ¬ z_dr (z_lk s.1) 4 < 2) (h2 : z_dr (z_lk s.1) 4 = 2) : zyd T s = (z_lk (z_lk s.1), zup s.2.1 21 (z_dr (z_lk (z_lk s.1)) 10), s.2.2) := by unfold zyd; rw [if_neg h, if_pos h2]
theorem zyd_2 {T : zT} {s : Int32 × (Nat → Int32) × Int32} (h : ¬ z_dr (z_lk s.1) 4 < 2) (h2 : ¬ z_dr (z_lk s.1) 4 = 2) (h3 : T.c = 0) : zyd T s = (z_lk s.1, s.2.1, s.2.2) := by unfold zyd; rw [if_neg h, if_neg h2, if_pos h3]
theorem zyd_3 {T : zT} {s : Int32 × (Nat → Int32) × Int32} (h : ¬ z_dr (z_lk s.1) 4 < 2) (h2 : ¬ z_dr (z_lk s.1) 4 = 2) (h3 : ¬ T.c = 0) : zyd T s = (z_lk (z_lk (z_lk s.1)), zup s.2.1 (7 + (z_dr (z_lk (z_lk s.1)) (nI T.c)).toNatClampNeg) (z_dr (z_lk (z_lk (z_lk s.1))) 6), s.2.2) := by unfold zyd; rw [if_neg h, if_neg h2, if_neg h3]
theorem y_X11_years_ok {n : Nat} {sl : Nat × Nat} {kd : Nat → Nat × Nat} {I : Nat → Nat → Int32} {L : Nat → Nat → Int64} {Rf : Nat → Nat → Option Nat} (d : Nat) {T : zT} {H : Nat} (hM : zM n kd I L Rf T) (hO : zOk H T) (hH : H ≤ 1000000000) (seed : Int32) {n0 : Nat} (hn1 : 1 ≤ n0) (hn : n0 ≤ 60)  : zq mX11_years (d + 400) [.ref 112, .int seed, .int (nI n0)] (n, sl, kd, I, L, Rf) (zpM n sl kd I L Rf (some (.int (s_years T seed (nI n0)).1)) (s_years T seed (nI n0)).2) := by
  have hF := hM.F; have hc7 := hO.c
  intro f B
  refine ez_meth pn_X.2.2.2.2.2.2.2.2.2.2.2 (Nat.le_of_ble_eq_true rfl) ?_
  show ez_P _ _ _ _ _ _ 0 [(0, .ref 112), (1, .int seed), (2, .int (nI n0))] [] (n, sl, kd, I, L, Rf) _
  refine ez_aload_n (i := 0) dX11_years_0 rfl rfl ?_
  refine ez_iconst (v := 0) dX11_years_1 (by decide) ?_
  refine ez_pI dX11_years_2 plX11_89 (hF.lt (by decide)) (hF.lx (by decide)) (hF.kc (by decide) rfl) rfl rfl ?_
  refine ez_nmI (fun I1 hI1 => ?_)
  have hQ2 : zQ n kd I L Rf I I1 L T (I 124) (I 112 25) := by rw [hI1]; exact zQ.start hM
  refine ez_iload_n (i := 2) dX11_years_5 rfl rfl ?_
  refine ez_iconst (v := 1) dX11_years_6 (by decide) ?_
  refine ez_bipush (v := 60) dX11_years_7 (by decide) ?_
  refine ez_callS (M1 := mX11_in) (rest := []) dX11_years_9 mlX11_98 msX11_in rfl (Nat.le_of_ble_eq_true rfl) rfl (zq_b1 (z_n19 (N := 60) hn1 hn (by decide)) (zq_b (q_X11_in (d + 399) (nI n0) 1 60) (n, sl, kd, I1, L, Rf))) eb_rok ?_
  rintro _ _ ⟨rfl, rfl⟩
  show ez_P _ _ _ _ _ _ 12 [(0, .ref 112), (1, .int seed), (2, .int (nI n0))] (.int 1 :: []) _ _
  refine ez_if_ne (tgt := 17) dX11_years_12 (by decide) (fun c3 => ?_) (fun c3 => absurd (by decide) c3)
  refine ez_aload_n (i := 0) dX11_years_17 rfl rfl ?_
  refine ez_iload_n (i := 1) dX11_years_18 rfl rfl ?_
  refine ez_pI dX11_years_19 plX11_374 (hF.lt (by decide)) (hF.lx (by decide)) (hF.kc (by decide) rfl) rfl rfl ?_
  refine ez_nmI (fun I4 hI4 => ?_)
  have hQ5 : zQ n kd I L Rf (z_set I 112 37 seed) I4 L T (I 124) (I 112 25) := by rw [hI4]; exact hQ2.dr
  refine ez_aload_n (i := 0) dX11_years_22 rfl rfl ?_
  refine ez_iconst (v := 0) dX11_years_23 (by decide) ?_
  refine ez_callV (M1 := mX11_goThen) (rest := []) dX11_years_24 mlX11_280 mvX11_goThen rfl (hF.lt (by decide)) (hF.kc (by decide) rfl) (Nat.le_of_ble_eq_true rfl) rfl (y_X11_goThen (I := I4) (N := 0) (d + 87) hQ5.M.W hc7 hQ5.M.x hO.x (by omega) (by omega) hO.wm hO.wd) zpH_ok ?_
  rintro _ _ ⟨rfl, I6, rfl, hq7⟩
  show ez_P _ _ _ _ _ _ 27 [(0, .ref 112), (1, .int seed), (2, .int (nI n0))] [] (n, sl, kd, I6, L, Rf) _
  have hQ8 : zQ n kd I L Rf (z_set I 112 37 seed) I6 L T (zhk T T.x 0) (zhc T T.x 0) := by exact hQ5.hp hq7
  refine ez_iconst (v := 0) dX11_years_27 (by decide) ?_
  refine ez_istore_n (l' := [(3, .int 0), (0, .ref 112), (1, .int seed), (2, .int (nI n0))]) dX11_years_28 rfl (by decide) rfl ?_
  refine ez_eq (l2 := [(3, .int (nI 0)), (0, .ref 112), (1, .int seed), (2, .int (nI n0))]) (σ2 := (n, sl, kd, I6, L, Rf)) rfl rfl rfl rfl ?_
  refine ez_for n0 (fun k (a : (Nat → Nat → Int32) × (Nat → Nat → Int64) × (Nat → Nat → Int32)) => ([(3, .int (nI k)), (0, .ref 112), (1, .int seed), (2, .int (nI n0))], (n, sl, kd, a.1, a.2.1, Rf))) (fun k a => zQ n kd I L Rf a.2.2 a.1 a.2.1 T ((a_years T seed k).2.1) ((a_years T seed k).2.2) ∧ a.2.2 112 37 = (a_years T seed k).1) ?_ ?_ n0 0 (I6, L, z_set I 112 37 seed) (by omega) ⟨hQ8, (show z_set I 112 37 seed 112 37 = seed from z_set_at)⟩
  · rintro k ⟨Ia, La, ga⟩ hk ⟨hQ0, hex⟩ ih
    have hQ0 : zQ n kd I L Rf ga Ia La T ((a_years T seed k).2.1) ((a_years T seed k).2.2) := hQ0
    have hex : ga 112 37 = (a_years T seed k).1 := hex
    show ez_P _ _ _ _ _ _ 29 [(3, .int (nI k)), (0, .ref 112), (1, .int seed), (2, .int (nI n0))] [] (n, sl, kd, Ia, La, Rf) _
    refine ez_iload_n (i := 3) dX11_years_29 rfl rfl ?_
    refine ez_iload_n (i := 2) dX11_years_30 rfl rfl ?_
    refine ez_icmp_ge (tgt := 122) dX11_years_31 (by decide) (fun c9 => absurd c9 (nI_ge hk (by omega))) (fun c9 => ?_)
    obtain ⟨R, hRk⟩ : ∃ R, R = (a_years T seed k).1 := ⟨_, rfl⟩
    have hR : ga 112 37 = R := hex.trans hRk.symm
    refine ez_aload_n (i := 0) dX11_years_34 rfl rfl ?_
    refine ez_iconst (v := 4) dX11_years_35 (by decide) ?_
    refine ez_callV (M1 := mX11_draw) (rest := []) dX11_years_36 mlX11_378 mvX11_draw rfl (hF.lt (by decide)) (hF.kc (by decide) rfl) (Nat.le_of_ble_eq_true rfl) rfl (y_X11_draw (I := Ia) (L := La) (d + 394) hQ0 hO hH (m := 4) (by decide)) (fun _ _ h => Or.inl (by obtain ⟨_, I1, h, _⟩ := h; rw [h])) ?_
    rintro _ _ ⟨rfl, I10, rfl, hQ11⟩
    show ez_P _ _ _ _ _ _ 39 [(3, .int (nI k)), (0, .ref 112), (1, .int seed), (2, .int (nI n0))] (.int (z_dr (z_lk (ga 112 37)) 4) :: []) (n, sl, kd, I10, La, Rf) _
    have hQ11 : zQ n kd I L Rf (z_set ga 112 37 (z_lk (ga 112 37))) I10 La T ((a_years T seed k).2.1) ((a_years T seed k).2.2) := hQ11
    refine ez_topE (y := z_dr (z_lk R) 4) (by rw [hR]) ?_
    have hR12 : (z_set ga 112 37 (z_lk (ga 112 37))) 112 37 = z_lk R := by rw [z_set_at, hR]
    refine ez_istore (l' := [(4, .int (z_dr (z_lk R) 4)), (3, .int (nI k)), (0, .ref 112), (1, .int seed), (2, .int (nI n0))]) dX11_years_39 (by decide) rfl ?_
    refine ez_iload (i := 4) dX11_years_41 rfl ?_
    refine ez_iconst (v := 2) dX11_years_43 (by decide) ?_
    refine ez_icmp_ge (tgt := 55) dX11_years_44 (by decide) (fun c13 => ?_) (fun c13 => ?_)
    · skip
      refine ez_iload (i := 4) dX11_years_55 rfl ?_
      refine ez_iconst (v := 2) dX11_years_57 (by decide) ?_
      refine ez_icmp_ne (tgt := 74) dX11_years_58 (by decide) (fun c14 => ?_) (fun c14 => ?_)
      · skip
        refine ez_iload (i := 4) dX11_years_74 rfl ?_
        refine ez_iconst (v := 3) dX11_years_76 (by decide) ?_
        refine ez_icmp_lt (tgt := 116) dX11_years_77 (by decide) (fun c15 => absurd c15 (by rw [z_d4 (Int32.not_lt.mpr c13) c14]; decide)) (fun c15 => ?_)
        refine ez_aload_n (i := 0) dX11_years_80 rfl rfl ?_
        refine ez_getI dX11_years_81 flX11_95 (hF.lt (by decide)) (hF.kc (by decide) rfl) ?_
        refine ez_topE (y := nI T.c) hQ11.M.c ?_
        refine ez_if_ne (tgt := 90) dX11_years_84 (by decide) (fun c16 => ?_) (fun c16 => ?_)
        · skip
          have hc0 : ¬ T.c = 0 := fun e => c16 (by rw [e]; decide)
          refine ez_aload_n (i := 0) dX11_years_90 rfl rfl ?_
          refine ez_aload_n (i := 0) dX11_years_91 rfl rfl ?_
          refine ez_getI dX11_years_92 flX11_95 (hF.lt (by decide)) (hF.kc (by decide) rfl) ?_
          refine ez_topE (y := nI T.c) hQ11.M.c ?_
          refine ez_callV (M1 := mX11_draw) (rest := []) dX11_years_95 mlX11_378 mvX11_draw rfl (hF.lt (by decide)) (hF.kc (by decide) rfl) (Nat.le_of_ble_eq_true rfl) rfl (y_X11_draw (I := I10) (L := La) (d + 394) hQ11 hO hH (m := nI T.c) (fun e => hc0 (nI_inj0 e (by omega)))) (fun _ _ h => Or.inl (by obtain ⟨_, I1, h, _⟩ := h; rw [h])) ?_
          rintro _ _ ⟨rfl, I17, rfl, hQ18⟩
          show ez_P _ _ _ _ _ _ 98 [(4, .int (z_dr (z_lk R) 4)), (3, .int (nI k)), (0, .ref 112), (1, .int seed), (2, .int (nI n0))] (.int (z_dr (z_lk ((z_set ga 112 37 (z_lk (ga 112 37))) 112 37)) (nI T.c)) :: []) (n, sl, kd, I17, La, Rf) _
          have hQ18 : zQ n kd I L Rf (z_set (z_set ga 112 37 (z_lk (ga 112 37))) 112 37 (z_lk ((z_set ga 112 37 (z_lk (ga 112 37))) 112 37))) I17 La T ((a_years T seed k).2.1) ((a_years T seed k).2.2) := hQ18
          refine ez_topE (y := z_dr (z_lk (z_lk R)) (nI T.c)) (by rw [hR12]) ?_
          have hR19 : (z_set (z_set ga 112 37 (z_lk (ga 112 37))) 112 37 (z_lk ((z_set ga 112 37 (z_lk (ga 112 37))) 112 37))) 112 37 = z_lk (z_lk R) := by rw [z_set_at, hR12]
          refine ez_istore (l' := [(5, .int (z_dr (z_lk (z_lk R)) (nI T.c))), (4, .int (z_dr (z_lk R) 4)), (3, .int (nI k)), (0, .ref 112), (1, .int seed), (2, .int (nI n0))]) dX11_years_98 (by decide) rfl ?_
          obtain ⟨bq, hbq, ebq⟩ := z_dr_n (z_lk (z_lk R)) (m := T.c) (by omega) (by omega)
          refine ez_eq (l2 := [(5, .int (nI bq)), (4, .int (z_dr (z_lk R) 4)), (3, .int (nI k)), (0, .ref 112), (1, .int seed), (2, .int (nI n0))]) rfl (by rw [ebq]) rfl rfl ?_
          refine ez_aload_n (i := 0) dX11_years_100 rfl rfl ?_
          refine ez_getR dX11_years_101 flX11_49 (hF.lt (by decide)) (hF.kc (by decide) rfl) (hF.pt 117 rfl) ?_
          refine ez_bipush (v := 7) dX11_years_104 (by decide) ?_
          refine ez_iload (i := 5) dX11_years_106 rfl ?_
          refine ez_iadd dX11_years_108 ?_
          refine ez_topE (y := nI (7 + bq)) (nI_add _ _) ?_
          refine ez_aload_n (i := 0) dX11_years_109 rfl rfl ?_
          refine ez_bipush (v := 6) dX11_years_110 (by decide) ?_
          refine ez_callV (M1 := mX11_draw) (rest := [.int (nI (7 + bq)), .ref 124]) dX11_years_112 mlX11_378 mvX11_draw rfl (hF.lt (by decide)) (hF.kc (by decide) rfl) (Nat.le_of_ble_eq_true rfl) rfl (y_X11_draw (I := I17) (L := La) (d + 394) hQ18 hO hH (m := 6) (by decide)) (fun _ _ h => Or.inl (by obtain ⟨_, I1, h, _⟩ := h; rw [h])) ?_
          rintro _ _ ⟨rfl, I20, rfl, hQ21⟩
          show ez_P _ _ _ _ _ _ 115 [(5, .int (nI bq)), (4, .int (z_dr (z_lk R) 4)), (3, .int (nI k)), (0, .ref 112), (1, .int seed), (2, .int (nI n0))] (.int (z_dr (z_lk ((z_set (z_set ga 112 37 (z_lk (ga 112 37))) 112 37 (z_lk ((z_set ga 112 37 (z_lk (ga 112 37))) 112 37))) 112 37)) 6) :: [.int (nI (7 + bq)), .ref 124]) (n, sl, kd, I20, La, Rf) _
          have hQ21 : zQ n kd I L Rf (z_set (z_set (z_set ga 112 37 (z_lk (ga 112 37))) 112 37 (z_lk ((z_set ga 112 37 (z_lk (ga 112 37))) 112 37))) 112 37 (z_lk ((z_set (z_set ga 112 37 (z_lk (ga 112 37))) 112 37 (z_lk ((z_set ga 112 37 (z_lk (ga 112 37))) 112 37))) 112 37))) I20 La T ((a_years T seed k).2.1) ((a_years T seed k).2.2) := hQ21
          refine ez_topE (y := z_dr (z_lk (z_lk (z_lk R))) 6) (by rw [hR19]) ?_
          have hR22 : (z_set (z_set (z_set ga 112 37 (z_lk (ga 112 37))) 112 37 (z_lk ((z_set ga 112 37 (z_lk (ga 112 37))) 112 37))) 112 37 (z_lk ((z_set (z_set ga 112 37 (z_lk (ga 112 37))) 112 37 (z_lk ((z_set ga 112 37 (z_lk (ga 112 37))) 112 37))) 112 37))) 112 37 = z_lk (z_lk (z_lk R)) := by rw [z_set_at, hR19]
          refine ez_isN (k := (7 + bq)) dX11_years_115 (hF.lt (by decide)) (hF.lx (by decide)) (hF.ka (by decide) rfl) (by omega) (by decide) ?_
          refine ez_nmI (fun I23 hI23 => ?_)
          have hQ24 : zQ n kd I L Rf (z_set (z_set (z_set ga 112 37 (z_lk (ga 112 37))) 112 37 (z_lk ((z_set ga 112 37 (z_lk (ga 112 37))) 112 37))) 112 37 (z_lk ((z_set (z_set ga 112 37 (z_lk (ga 112 37))) 112 37 (z_lk ((z_set ga 112 37 (z_lk (ga 112 37))) 112 37))) 112 37))) I23 La T (zup ((a_years T seed k).2.1) (7 + bq) (z_dr (z_lk (z_lk (z_lk R))) 6)) ((a_years T seed k).2.2) := by rw [hI23]; exact hQ21.set
          refine ez_iinc (v := (nI (k + 1))) (l' := [(3, .int ((nI (k + 1)))), (5, .int (nI bq)), (4, .int (z_dr (z_lk R) 4)), (0, .ref 112), (1, .int seed), (2, .int (nI n0))]) dX11_years_116 rfl (nI_1 _) (by decide) rfl ?_
          refine ez_goto (tgt := 29) dX11_years_119 (by decide) ?_
          have hyd := zyd_3 (T := T) (s := a_years T seed k) (by rw [← hRk]; exact Int32.not_lt.mpr c13) (by rw [← hRk]; exact c14) hc0
          have hyd : a_years T seed (k + 1) = _ := hyd
          have hQz : zQ n kd I L Rf (z_set (z_set (z_set ga 112 37 (z_lk (ga 112 37))) 112 37 (z_lk ((z_set ga 112 37 (z_lk (ga 112 37))) 112 37))) 112 37 (z_lk ((z_set (z_set ga 112 37 (z_lk (ga 112 37))) 112 37 (z_lk ((z_set ga 112 37 (z_lk (ga 112 37))) 112 37))) 112 37))) I23 La T ((a_years T seed (k + 1)).2.1) ((a_years T seed (k + 1)).2.2) := by rw [hyd]; rw [← hRk, ebq, nI_clamp (by omega)]; exact hQ24
          have hRz : (z_set (z_set (z_set ga 112 37 (z_lk (ga 112 37))) 112 37 (z_lk ((z_set ga 112 37 (z_lk (ga 112 37))) 112 37))) 112 37 (z_lk ((z_set (z_set ga 112 37 (z_lk (ga 112 37))) 112 37 (z_lk ((z_set ga 112 37 (z_lk (ga 112 37))) 112 37))) 112 37))) 112 37 = (a_years T seed (k + 1)).1 := by rw [hR22, hyd, ← hRk]
          refine ez_sub (l' := [(3, .int ((nI (k + 1)))), (0, .ref 112), (1, .int seed), (2, .int (nI n0))]) [0, 3, 4, 5] rfl ?_
          exact ez_eq (l2 := [(3, .int (nI (k + 1))), (0, .ref 112), (1, .int seed), (2, .int (nI n0))]) rfl rfl rfl rfl (ih (I23, La, z_set (z_set (z_set ga 112 37 (z_lk (ga 112 37))) 112 37 (z_lk ((z_set ga 112 37 (z_lk (ga 112 37))) 112 37))) 112 37 (z_lk ((z_set (z_set ga 112 37 (z_lk (ga 112 37))) 112 37 (z_lk ((z_set ga 112 37 (z_lk (ga 112 37))) 112 37))) 112 37))) ⟨hQz, hRz⟩)
        · skip
          refine ez_goto (tgt := 116) dX11_years_87 (by decide) ?_
          refine ez_iinc (v := (nI (k + 1))) (l' := [(3, .int ((nI (k + 1)))), (4, .int (z_dr (z_lk R) 4)), (0, .ref 112), (1, .int seed), (2, .int (nI n0))]) dX11_years_116 rfl (nI_1 _) (by decide) rfl ?_
          refine ez_goto (tgt := 29) dX11_years_119 (by decide) ?_
          have hyd := zyd_2 (T := T) (s := a_years T seed k) (by rw [← hRk]; exact Int32.not_lt.mpr c13) (by rw [← hRk]; exact c14) (nI_inj0 (Classical.not_not.mp c16) (by omega))
          have hyd : a_years T seed (k + 1) = _ := hyd
          have hQz : zQ n kd I L Rf (z_set ga 112 37 (z_lk (ga 112 37))) I10 La T ((a_years T seed (k + 1)).2.1) ((a_years T seed (k + 1)).2.2) := by rw [hyd]; exact hQ11
          have hRz : (z_set ga 112 37 (z_lk (ga 112 37))) 112 37 = (a_years T seed (k + 1)).1 := by rw [hR12, hyd, ← hRk]
          refine ez_sub (l' := [(3, .int ((nI (k + 1)))), (0, .ref 112), (1, .int seed), (2, .int (nI n0))]) [0, 2, 3, 4] rfl ?_
          exact ez_eq (l2 := [(3, .int (nI (k + 1))), (0, .ref 112), (1, .int seed), (2, .int (nI n0))]) rfl rfl rfl rfl (ih (I10, La, z_set ga 112 37 (z_lk (ga 112 37))) ⟨hQz, hRz⟩)
      · skip
        refine ez_aload_n (i := 0) dX11_years_61 rfl rfl ?_
        refine ez_getR dX11_years_62 flX11_49 (hF.lt (by decide)) (hF.kc (by decide) rfl) (hF.pt 117 rfl) ?_
        refine ez_bipush (v := 21) dX11_years_65 (by decide) ?_
        refine ez_aload_n (i := 0) dX11_years_67 rfl rfl ?_
        refine ez_bipush (v := 10) dX11_years_68 (by decide) ?_
        refine ez_callV (M1 := mX11_draw) (rest := [.int 21, .ref 124]) dX11_years_70 mlX11_378 mvX11_draw rfl (hF.lt (by decide)) (hF.kc (by decide) rfl) (Nat.le_of_ble_eq_true rfl) rfl (y_X11_draw (I := I10) (L := La) (d + 394) hQ11 hO hH (m := 10) (by decide)) (fun _ _ h => Or.inl (by obtain ⟨_, I1, h, _⟩ := h; rw [h])) ?_
        rintro _ _ ⟨rfl, I25, rfl, hQ26⟩
        show ez_P _ _ _ _ _ _ 73 [(4, .int (z_dr (z_lk R) 4)), (3, .int (nI k)), (0, .ref 112), (1, .int seed), (2, .int (nI n0))] (.int (z_dr (z_lk ((z_set ga 112 37 (z_lk (ga 112 37))) 112 37)) 10) :: [.int 21, .ref 124]) (n, sl, kd, I25, La, Rf) _
        have hQ26 : zQ n kd I L Rf (z_set (z_set ga 112 37 (z_lk (ga 112 37))) 112 37 (z_lk ((z_set ga 112 37 (z_lk (ga 112 37))) 112 37))) I25 La T ((a_years T seed k).2.1) ((a_years T seed k).2.2) := hQ26
        refine ez_topE (y := z_dr (z_lk (z_lk R)) 10) (by rw [hR12]) ?_
        have hR27 : (z_set (z_set ga 112 37 (z_lk (ga 112 37))) 112 37 (z_lk ((z_set ga 112 37 (z_lk (ga 112 37))) 112 37))) 112 37 = z_lk (z_lk R) := by rw [z_set_at, hR12]
        refine ez_isN (k := 21) dX11_years_73 (hF.lt (by decide)) (hF.lx (by decide)) (hF.ka (by decide) rfl) (by omega) (by decide) ?_
        refine ez_nmI (fun I28 hI28 => ?_)
        have hQ29 : zQ n kd I L Rf (z_set (z_set ga 112 37 (z_lk (ga 112 37))) 112 37 (z_lk ((z_set ga 112 37 (z_lk (ga 112 37))) 112 37))) I28 La T (zup ((a_years T seed k).2.1) 21 (z_dr (z_lk (z_lk R)) 10)) ((a_years T seed k).2.2) := by rw [hI28]; exact hQ26.set
        refine ez_iload (i := 4) dX11_years_74 rfl ?_
        refine ez_iconst (v := 3) dX11_years_76 (by decide) ?_
        refine ez_icmp_lt (tgt := 116) dX11_years_77 (by decide) (fun c30 => ?_) (fun c30 => absurd (by rw [Classical.not_not.mp c14]; decide) c30)
        refine ez_iinc (v := (nI (k + 1))) (l' := [(3, .int ((nI (k + 1)))), (4, .int (z_dr (z_lk R) 4)), (0, .ref 112), (1, .int seed), (2, .int (nI n0))]) dX11_years_116 rfl (nI_1 _) (by decide) rfl ?_
        refine ez_goto (tgt := 29) dX11_years_119 (by decide) ?_
        have hyd := zyd_1 (T := T) (s := a_years T seed k) (by rw [← hRk]; exact Int32.not_lt.mpr c13) (by rw [← hRk]; exact Classical.not_not.mp c14)
        have hyd : a_years T seed (k + 1) = _ := hyd
        have hQz : zQ n kd I L Rf (z_set (z_set ga 112 37 (z_lk (ga 112 37))) 112 37 (z_lk ((z_set ga 112 37 (z_lk (ga 112 37))) 112 37))) I28 La T ((a_years T seed (k + 1)).2.1) ((a_years T seed (k + 1)).2.2) := by rw [hyd]; rw [← hRk]; exact hQ29
        have hRz : (z_set (z_set ga 112 37 (z_lk (ga 112 37))) 112 37 (z_lk ((z_set ga 112 37 (z_lk (ga 112 37))) 112 37))) 112 37 = (a_years T seed (k + 1)).1 := by rw [hR27, hyd, ← hRk]
        refine ez_sub (l' := [(3, .int ((nI (k + 1)))), (0, .ref 112), (1, .int seed), (2, .int (nI n0))]) [0, 2, 3, 4] rfl ?_
        exact ez_eq (l2 := [(3, .int (nI (k + 1))), (0, .ref 112), (1, .int seed), (2, .int (nI n0))]) rfl rfl rfl rfl (ih (I28, La, z_set (z_set ga 112 37 (z_lk (ga 112 37))) 112 37 (z_lk ((z_set ga 112 37 (z_lk (ga 112 37))) 112 37))) ⟨hQz, hRz⟩)
    · skip
      refine ez_aload_n (i := 0) dX11_years_47 rfl rfl ?_
      refine ez_aload_n (i := 0) dX11_years_48 rfl rfl ?_
      refine ez_getR dX11_years_49 flX11_49 (hF.lt (by decide)) (hF.kc (by decide) rfl) (hF.pt 117 rfl) ?_
      refine ez_callV (M1 := mX11_goHour) (rest := []) dX11_years_52 mlX11_242 mvX11_goHour rfl (hF.lt (by decide)) (hF.kc (by decide) rfl) (Nat.le_of_ble_eq_true rfl) rfl (y_X11_goHour (I := I10) (d + 89) hQ11.M.W hc7 (Or.inr rfl) hQ11.x (a_years_xr hO k) (by omega) hO.wm hO.wd) zpH_ok ?_
      rintro _ _ ⟨rfl, I31, rfl, hq32⟩
      show ez_P _ _ _ _ _ _ 55 [(4, .int (z_dr (z_lk R) 4)), (3, .int (nI k)), (0, .ref 112), (1, .int seed), (2, .int (nI n0))] [] (n, sl, kd, I31, La, Rf) _
      rw [hQ11.o] at hq32
      have hQ33 : zQ n kd I L Rf (z_set ga 112 37 (z_lk (ga 112 37))) I31 La T (zh1 T (zhw T ((a_years T seed k).2.1)) ((a_years T seed k).2.1)) ((a_years T seed k).2.2 + zho T (zhw T ((a_years T seed k).2.1)) ((a_years T seed k).2.1)) := by exact hQ11.hp hq32
      refine ez_iload (i := 4) dX11_years_55 rfl ?_
      refine ez_iconst (v := 2) dX11_years_57 (by decide) ?_
      refine ez_icmp_ne (tgt := 74) dX11_years_58 (by decide) (fun c34 => ?_) (fun c34 => absurd (fun e => c13 (by rw [e]; decide)) c34)
      refine ez_iload (i := 4) dX11_years_74 rfl ?_
      refine ez_iconst (v := 3) dX11_years_76 (by decide) ?_
      refine ez_icmp_lt (tgt := 116) dX11_years_77 (by decide) (fun c35 => ?_) (fun c35 => absurd (Int32.lt_trans (Int32.not_le.mp c13) (by decide)) c35)
      refine ez_iinc (v := (nI (k + 1))) (l' := [(3, .int ((nI (k + 1)))), (4, .int (z_dr (z_lk R) 4)), (0, .ref 112), (1, .int seed), (2, .int (nI n0))]) dX11_years_116 rfl (nI_1 _) (by decide) rfl ?_
      refine ez_goto (tgt := 29) dX11_years_119 (by decide) ?_
      have hyd := zyd_0 (T := T) (s := a_years T seed k) (by rw [← hRk]; exact Int32.not_le.mp c13)
      have hyd : a_years T seed (k + 1) = _ := hyd
      have hQz : zQ n kd I L Rf (z_set ga 112 37 (z_lk (ga 112 37))) I31 La T ((a_years T seed (k + 1)).2.1) ((a_years T seed (k + 1)).2.2) := by rw [hyd]; exact hQ33
      have hRz : (z_set ga 112 37 (z_lk (ga 112 37))) 112 37 = (a_years T seed (k + 1)).1 := by rw [hR12, hyd, ← hRk]
      refine ez_sub (l' := [(3, .int ((nI (k + 1)))), (0, .ref 112), (1, .int seed), (2, .int (nI n0))]) [0, 2, 3, 4] rfl ?_
      exact ez_eq (l2 := [(3, .int (nI (k + 1))), (0, .ref 112), (1, .int seed), (2, .int (nI n0))]) rfl rfl rfl rfl (ih (I31, La, z_set ga 112 37 (z_lk (ga 112 37))) ⟨hQz, hRz⟩)
  · rintro ⟨Ia, La, ga⟩ ⟨hQ0, hex⟩
    have hQ0 : zQ n kd I L Rf ga Ia La T ((a_years T seed n0).2.1) ((a_years T seed n0).2.2) := hQ0
    have hex : ga 112 37 = (a_years T seed n0).1 := hex
    show ez_P _ _ _ _ _ _ 29 [(3, .int (nI n0)), (0, .ref 112), (1, .int seed), (2, .int (nI n0))] [] (n, sl, kd, Ia, La, Rf) _
    refine ez_iload_n (i := 3) dX11_years_29 rfl rfl ?_
    refine ez_iload_n (i := 2) dX11_years_30 rfl rfl ?_
    refine ez_icmp_ge (tgt := 122) dX11_years_31 (by decide) (fun c36 => ?_) (fun c36 => absurd (nI_le (Nat.le_refl _) (by omega)) c36)
    refine ez_aload_n (i := 0) dX11_years_122 rfl rfl ?_
    refine ez_iconst (v := 0) dX11_years_123 (by decide) ?_
    refine ez_pI dX11_years_124 plX11_92 (hF.lt (by decide)) (hF.lx (by decide)) (hF.kc (by decide) rfl) rfl rfl ?_
    refine ez_nmI (fun I37 hI37 => ?_)
    have hQ38 : zQ n kd I L Rf ga I37 La (T.w_rw []) ((a_years T seed n0).2.1) ((a_years T seed n0).2.2) := by rw [hI37]; exact hQ0.row0
    refine ez_aload_n (i := 0) dX11_years_127 rfl rfl ?_
    refine ez_aload_n (i := 0) dX11_years_128 rfl rfl ?_
    refine ez_getR dX11_years_129 flX11_49 (hF.lt (by decide)) (hF.kc (by decide) rfl) (hF.pt 117 rfl) ?_
    refine ez_bipush (v := 23) dX11_years_132 (by decide) ?_
    refine ez_iaN (k := 23) dX11_years_134 (hF.lt (by decide)) (hF.ka (by decide) rfl) (by omega) (by decide) ?_
    refine ez_topE (y := ((a_years T seed n0).2.1) 23) (hQ38.x _ (by decide)) ?_
    refine ez_aload_n (i := 0) dX11_years_135 rfl rfl ?_
    refine ez_getR dX11_years_136 flX11_9 (hF.lt (by decide)) (hF.kc (by decide) rfl) (hF.pt 107 rfl) ?_
    refine ez_bipush (v := 23) dX11_years_139 (by decide) ?_
    refine ez_iaN (k := 23) dX11_years_141 (hF.lt (by decide)) (hF.ka (by decide) rfl) (by omega) (by decide) ?_
    refine ez_topE (y := T.x 23) (hQ38.M.x _ (by decide)) ?_
    refine ez_isub dX11_years_142 ?_
    refine ez_i2l dX11_years_143 rfl ?_
    refine ez_callV (M1 := mX11_tell) (rest := []) dX11_years_144 mlX11_252 mvX11_tell rfl (hF.lt (by decide)) (hF.kc (by decide) rfl) (Nat.le_of_ble_eq_true rfl) rfl (y_X11_tell (I := I37) (L := La) (d + 399) hF (k := 0) hQ38.M.rw.1 (by decide) (((((a_years T seed n0).2.1) 23) - (T.x 23)).toInt64)) (eb_vok rfl) ?_
    rintro _ _ ⟨rfl, rfl⟩
    refine ez_nmI (fun I39 hI39 => ?_)
    refine ez_nmL (fun L40 hL40 => ?_)
    show ez_P _ _ _ _ _ _ 147 [(3, .int (nI n0)), (0, .ref 112), (1, .int seed), (2, .int (nI n0))] [] (n, sl, kd, I39, L40, Rf) _
    have hQ41 : zQ n kd I L Rf ga I39 L40 (T.w_rw [((((a_years T seed n0).2.1) 23) - (T.x 23)).toInt64]) ((a_years T seed n0).2.1) ((a_years T seed n0).2.2) := by rw [hI39, hL40]; exact hQ38.tell (((((a_years T seed n0).2.1) 23) - (T.x 23)).toInt64)
    refine ez_aload_n (i := 0) dX11_years_147 rfl rfl ?_
    refine ez_aload_n (i := 0) dX11_years_148 rfl rfl ?_
    refine ez_getI dX11_years_149 flX11_235 (hF.lt (by decide)) (hF.kc (by decide) rfl) ?_
    refine ez_topE (y := (a_years T seed n0).2.2) hQ41.o ?_
    refine ez_i2l dX11_years_152 rfl ?_
    refine ez_callV (M1 := mX11_tell) (rest := []) dX11_years_153 mlX11_252 mvX11_tell rfl (hF.lt (by decide)) (hF.kc (by decide) rfl) (Nat.le_of_ble_eq_true rfl) rfl (y_X11_tell (I := I39) (L := L40) (d + 399) hF (k := 1) hQ41.M.rw.1 (by decide) (((a_years T seed n0).2.2).toInt64)) (eb_vok rfl) ?_
    rintro _ _ ⟨rfl, rfl⟩
    refine ez_nmI (fun I42 hI42 => ?_)
    refine ez_nmL (fun L43 hL43 => ?_)
    show ez_P _ _ _ _ _ _ 156 [(3, .int (nI n0)), (0, .ref 112), (1, .int seed), (2, .int (nI n0))] [] (n, sl, kd, I42, L43, Rf) _
    have hQ44 : zQ n kd I L Rf ga I42 L43 (T.w_rw [((((a_years T seed n0).2.1) 23) - (T.x 23)).toInt64, ((a_years T seed n0).2.2).toInt64]) ((a_years T seed n0).2.1) ((a_years T seed n0).2.2) := by rw [hI42, hL43]; exact hQ41.tell (((a_years T seed n0).2.2).toInt64)
    refine ez_bipush (v := 100) dX11_years_156 (by decide) ?_
    refine ez_aload_n (i := 0) dX11_years_158 rfl rfl ?_
    refine ez_getR dX11_years_159 flX11_49 (hF.lt (by decide)) (hF.kc (by decide) rfl) (hF.pt 117 rfl) ?_
    refine ez_bipush (v := 22) dX11_years_162 (by decide) ?_
    refine ez_iaN (k := 22) dX11_years_164 (hF.lt (by decide)) (hF.ka (by decide) rfl) (by omega) (by decide) ?_
    refine ez_topE (y := ((a_years T seed n0).2.1) 22) (hQ44.x _ (by decide)) ?_
    refine ez_iadd dX11_years_165 ?_
    refine ez_iret dX11_years_166 rfl rfl ?_
    rw [show s_years T seed (nI n0) = (100 + (a_years T seed n0).2.1 22, T.w_rw [((a_years T seed n0).2.1 23 - T.x 23).toInt64, (a_years T seed n0).2.2.toInt64]) from by unfold s_years; rw [if_pos ⟨(z_n19 (N := 60) hn1 hn (by decide)).1, (z_n19 (N := 60) hn1 hn (by decide)).2⟩, nI_clamp (by omega)]]
    exact hQ44.end
theorem y_X11_years_no {n : Nat} {sl : Nat × Nat} {kd : Nat → Nat × Nat} {I : Nat → Nat → Int32} {L : Nat → Nat → Int64} {Rf : Nat → Nat → Option Nat} (d : Nat) {T : zT} {H : Nat} (hM : zM n kd I L Rf T) (hO : zOk H T) (hH : H ≤ 1000000000) (seed : Int32) {v : Int32} (hn : ¬ (1 ≤ v ∧ v ≤ 60))  : zq mX11_years (d + 400) [.ref 112, .int seed, .int v] (n, sl, kd, I, L, Rf) (zpM n sl kd I L Rf (some (.int (s_years T seed v).1)) (s_years T seed v).2) := by
  have hF := hM.F; have hc7 := hO.c
  have hsp : s_years T seed v = ((-1), T) := (by unfold s_years; rw [if_neg hn])
  rw [hsp]
  intro f B
  refine ez_meth pn_X.2.2.2.2.2.2.2.2.2.2.2 (Nat.le_of_ble_eq_true rfl) ?_
  show ez_P _ _ _ _ _ _ 0 [(0, .ref 112), (1, .int seed), (2, .int v)] [] (n, sl, kd, I, L, Rf) _
  refine ez_aload_n (i := 0) dX11_years_0 rfl rfl ?_
  refine ez_iconst (v := 0) dX11_years_1 (by decide) ?_
  refine ez_pI dX11_years_2 plX11_89 (hF.lt (by decide)) (hF.lx (by decide)) (hF.kc (by decide) rfl) rfl rfl ?_
  refine ez_nmI (fun I1 hI1 => ?_)
  have hQ2 : zQ n kd I L Rf I I1 L T (I 124) (I 112 25) := by rw [hI1]; exact zQ.start hM
  refine ez_iload_n (i := 2) dX11_years_5 rfl rfl ?_
  refine ez_iconst (v := 1) dX11_years_6 (by decide) ?_
  refine ez_bipush (v := 60) dX11_years_7 (by decide) ?_
  refine ez_callS (M1 := mX11_in) (rest := []) dX11_years_9 mlX11_98 msX11_in rfl (Nat.le_of_ble_eq_true rfl) rfl (zq_b0 hn (zq_b (q_X11_in (d + 399) v 1 60) (n, sl, kd, I1, L, Rf))) eb_rok ?_
  rintro _ _ ⟨rfl, rfl⟩
  show ez_P _ _ _ _ _ _ 12 [(0, .ref 112), (1, .int seed), (2, .int v)] (.int 0 :: []) _ _
  refine ez_if_ne (tgt := 17) dX11_years_12 (by decide) (fun c3 => absurd c3 (by decide)) (fun c3 => ?_)
  refine ez_iconst (v := (-1)) dX11_years_15 (by decide) ?_
  refine ez_iret dX11_years_16 rfl rfl ?_
  exact hQ2.end
theorem y_X11_years {n : Nat} {sl : Nat × Nat} {kd : Nat → Nat × Nat} {I : Nat → Nat → Int32} {L : Nat → Nat → Int64} {Rf : Nat → Nat → Option Nat} (d : Nat) {T : zT} {H : Nat} (hM : zM n kd I L Rf T) (hO : zOk H T) (hH : H ≤ 1000000000) (seed v : Int32) : zq mX11_years (d + 400) [.ref 112, .int seed, .int v] (n, sl, kd, I, L, Rf) (zpM n sl kd I L Rf (some (.int (s_years T seed v).1)) (s_years T seed v).2) := by
  by_cases hn : 1 ≤ v ∧ v ≤ 60
  · obtain ⟨n0, h1, hn0, rfl⟩ := z_pk1 (lo := 1) (N := 60) hn (by decide) (by decide)
    exact y_X11_years_ok d hM hO hH seed h1 hn0
  · exact y_X11_years_no d hM hO hH seed hn
theorem z_le00 {m : Nat} (h : nI m ≤ 0) (hm : m < 2147483648) : m = 0 := by have h1 := (nI_leI (a := m) (b := 0) hm (by decide)).mp (by rw [nI_0]; exact h); omega
theorem k_year {n : Nat} {sl : Nat × Nat} {kd : Nat → Nat × Nat} {I : Nat → Nat → Int32} {L : Nat → Nat → Int64} {Rf : Nat → Nat → Option Nat} (d : Nat) {T : zT} {H : Nat} {I0 g : Nat → Nat → Int32} {L0 : Nat → Nat → Int64} {R0 : Nat → Nat → Option Nat} {Bf : Option (Nat → Int32)} {x : Nat → Int32} {w : Bool} (hK : zK n kd I0 L0 R0 g I L Rf T (some x) Bf w) (hO : zOk H T) (hH : H ≤ 1000000000) {H2 : Nat} (hx : zxr T.c H2 x) (hH2 : H2 ≤ 1000001000) {R : Int32} (hR : g 101 0 = R) (f : Nat) : ez_Q (f + 1) (zBm T x) f (fun C => C = zBm T (zyd T (R, x, 0)).2.1) mX10_drawnYear (d + 30) [.ref 0] (n, sl, kd, I, L, Rf) (zpKg n sl kd I0 L0 R0 L Rf T (some (zyd T (R, x, 0)).2.1) Bf w (some (.int (zyd T (R, x, 0)).2.2)) (fun g1 => g1 101 0 = (zyd T (R, x, 0)).1)) := by
  have hC := hK.C; have hF := hC.F; have hc7 := hO.c
  refine ez_meth pn_X.2.2.2.2.2.2.2.2.2.2.1 (Nat.le_of_ble_eq_true rfl) ?_
  show ez_P _ _ _ _ _ _ 0 [(0, .ref 0)] [] (n, sl, kd, I, L, Rf) _
  refine ez_aload_n (i := 0) dX10_drawnYear_0 rfl rfl ?_
  refine ez_getR dX10_drawnYear_1 flX10_73 (hF.lt (by decide)) (hF.kc (by decide) rfl) (hF.pt 98 rfl) ?_
  refine ez_iconst (v := 4) dX10_drawnYear_4 (by decide) ?_
  refine ez_callV (M1 := mX1_draw) (rest := []) dX10_drawnYear_5 mlX10_413 mvX1_draw rfl (hF.lt (by decide)) (hF.kc (by decide) rfl) (Nat.le_of_ble_eq_true rfl) rfl (y_X1_draw (I := I) (L := L) (d + 29) (i := 101) ⟨hF.kc (by decide) rfl, hF.lt (by decide), hF.2.1⟩ rfl (m := 4) (by decide)) eb_rok1 ?_
  rintro _ _ ⟨rfl, rfl⟩
  have ge2 : I 101 0 = R := (congrFun (hK.g 101 (by unfold zgk; omega)) 0).trans hR
  rw [ge2]
  refine ez_nmI (fun I1 hI1 => ?_)
  show ez_P _ _ _ _ _ _ 8 [(0, .ref 0)] (.int (z_dr (z_lk R) 4) :: []) (n, sl, kd, I1, L, Rf) _
  have hK3 : zK n kd I0 L0 R0 (z_set g 101 0 (z_lk R)) I1 L Rf T (some x) Bf w := by rw [hI1]; exact hK.gset (by unfold zgk; omega)
  have hR4 : (z_set g 101 0 (z_lk R)) 101 0 = z_lk R := z_set_at
  refine ez_istore_n (l' := [(1, .int (z_dr (z_lk R) 4)), (0, .ref 0)]) dX10_drawnYear_8 rfl (by decide) rfl ?_
  refine ez_iload_n (i := 1) dX10_drawnYear_9 rfl rfl ?_
  refine ez_iconst (v := 2) dX10_drawnYear_10 (by decide) ?_
  refine ez_icmp_ge (tgt := 27) dX10_drawnYear_11 (by decide) (fun c5 => ?_) (fun c5 => ?_)
  · skip
    refine ez_iload_n (i := 1) dX10_drawnYear_27 rfl rfl ?_
    refine ez_iconst (v := 2) dX10_drawnYear_28 (by decide) ?_
    refine ez_icmp_ne (tgt := 51) dX10_drawnYear_29 (by decide) (fun c6 => ?_) (fun c6 => ?_)
    · skip
      refine ez_aload_n (i := 0) dX10_drawnYear_51 rfl rfl ?_
      refine ez_getR dX10_drawnYear_52 flX10_37 (hF.lt (by decide)) (hF.kc (by decide) rfl) (hF.pt 25 rfl) ?_
      refine ez_getI dX10_drawnYear_55 flX10_126 (hF.lt (by decide)) (hF.kc (by decide) rfl) ?_
      refine ez_topE (y := nI T.c) (hK3.gs _ rfl).cr ?_
      refine ez_if_le (tgt := 101) dX10_drawnYear_58 (by decide) (fun c7 => ?_) (fun c7 => ?_)
      · skip
        refine ez_iconst (v := 0) dX10_drawnYear_101 (by decide) ?_
        have hyd := zyd_2 (T := T) (s := (R, x, 0)) (Int32.not_lt.mpr c5) c6 (z_le00 c7 (by omega))
        have hqb : zBm T x = zBm T (zyd T (R, x, 0)).2.1 := by rw [hyd]
        refine ez_iret dX10_drawnYear_102 rfl rfl ?_ (hQ := hqb)
        rw [hyd]; exact ⟨rfl, _, _, rfl, (by show zK n kd I0 L0 R0 (z_set g 101 0 (z_lk R)) I1 L Rf T (some _) Bf w; exact hK3), hR4⟩
      · skip
        have hc0 : ¬ T.c = 0 := fun e => c7 (by rw [e]; decide)
        refine ez_aload_n (i := 0) dX10_drawnYear_61 rfl rfl ?_
        refine ez_getR dX10_drawnYear_62 flX10_73 (hF.lt (by decide)) (hF.kc (by decide) rfl) (hF.pt 98 rfl) ?_
        refine ez_aload_n (i := 0) dX10_drawnYear_65 rfl rfl ?_
        refine ez_getR dX10_drawnYear_66 flX10_37 (hF.lt (by decide)) (hF.kc (by decide) rfl) (hF.pt 25 rfl) ?_
        refine ez_getI dX10_drawnYear_69 flX10_126 (hF.lt (by decide)) (hF.kc (by decide) rfl) ?_
        refine ez_topE (y := nI T.c) (hK3.gs _ rfl).cr ?_
        refine ez_callV (M1 := mX1_draw) (rest := []) dX10_drawnYear_72 mlX10_413 mvX1_draw rfl (hF.lt (by decide)) (hF.kc (by decide) rfl) (Nat.le_of_ble_eq_true rfl) rfl (y_X1_draw (I := I1) (L := L) (d + 29) (i := 101) ⟨hF.kc (by decide) rfl, hF.lt (by decide), hF.2.1⟩ rfl (m := nI T.c) (nI_lt (a := 0) (by omega) (by omega))) eb_rok1 ?_
        rintro _ _ ⟨rfl, rfl⟩
        have ge9 : I1 101 0 = z_lk R := (congrFun (hK3.g 101 (by unfold zgk; omega)) 0).trans hR4
        rw [ge9]
        refine ez_nmI (fun I8 hI8 => ?_)
        show ez_P _ _ _ _ _ _ 75 [(1, .int (z_dr (z_lk R) 4)), (0, .ref 0)] (.int (z_dr (z_lk (z_lk R)) (nI T.c)) :: []) (n, sl, kd, I8, L, Rf) _
        have hK10 : zK n kd I0 L0 R0 (z_set (z_set g 101 0 (z_lk R)) 101 0 (z_lk (z_lk R))) I8 L Rf T (some x) Bf w := by rw [hI8]; exact hK3.gset (by unfold zgk; omega)
        have hR11 : (z_set (z_set g 101 0 (z_lk R)) 101 0 (z_lk (z_lk R))) 101 0 = z_lk (z_lk R) := z_set_at
        refine ez_istore_n (l' := [(2, .int (z_dr (z_lk (z_lk R)) (nI T.c))), (1, .int (z_dr (z_lk R) 4)), (0, .ref 0)]) dX10_drawnYear_75 rfl (by decide) rfl ?_
        obtain ⟨bq, hbq, ebq⟩ := z_dr_n (z_lk (z_lk R)) (m := T.c) (by omega) (by omega)
        refine ez_eq (l2 := [(2, .int (nI bq)), (1, .int (z_dr (z_lk R) 4)), (0, .ref 0)]) rfl (by rw [ebq]) rfl rfl ?_
        refine ez_aload_n (i := 0) dX10_drawnYear_76 rfl rfl ?_
        refine ez_getR dX10_drawnYear_77 flX10_37 (hF.lt (by decide)) (hF.kc (by decide) rfl) (hF.pt 25 rfl) ?_
        refine ez_getR dX10_drawnYear_80 flX10_168 (hF.lt (by decide)) (hF.kc (by decide) rfl) (hF.pt 23 rfl) ?_
        refine ez_iload_n (i := 2) dX10_drawnYear_83 rfl rfl ?_
        refine ez_aload_n (i := 0) dX10_drawnYear_84 rfl rfl ?_
        refine ez_getR dX10_drawnYear_85 flX10_73 (hF.lt (by decide)) (hF.kc (by decide) rfl) (hF.pt 98 rfl) ?_
        refine ez_bipush (v := 6) dX10_drawnYear_88 (by decide) ?_
        refine ez_callV (M1 := mX1_draw) (rest := [.int (nI bq), .ref 27]) dX10_drawnYear_90 mlX10_413 mvX1_draw rfl (hF.lt (by decide)) (hF.kc (by decide) rfl) (Nat.le_of_ble_eq_true rfl) rfl (y_X1_draw (I := I8) (L := L) (d + 29) (i := 101) ⟨hF.kc (by decide) rfl, hF.lt (by decide), hF.2.1⟩ rfl (m := 6) (by decide)) eb_rok1 ?_
        rintro _ _ ⟨rfl, rfl⟩
        have ge13 : I8 101 0 = z_lk (z_lk R) := (congrFun (hK10.g 101 (by unfold zgk; omega)) 0).trans hR11
        rw [ge13]
        refine ez_nmI (fun I12 hI12 => ?_)
        show ez_P _ _ _ _ _ _ 93 [(2, .int (nI bq)), (1, .int (z_dr (z_lk R) 4)), (0, .ref 0)] (.int (z_dr (z_lk (z_lk (z_lk R))) 6) :: [.int (nI bq), .ref 27]) (n, sl, kd, I12, L, Rf) _
        have hK14 : zK n kd I0 L0 R0 (z_set (z_set (z_set g 101 0 (z_lk R)) 101 0 (z_lk (z_lk R))) 101 0 (z_lk (z_lk (z_lk R)))) I12 L Rf T (some x) Bf w := by rw [hI12]; exact hK10.gset (by unfold zgk; omega)
        have hR15 : (z_set (z_set (z_set g 101 0 (z_lk R)) 101 0 (z_lk (z_lk R))) 101 0 (z_lk (z_lk (z_lk R)))) 101 0 = z_lk (z_lk (z_lk R)) := z_set_at
        refine ez_isN (k := bq) dX10_drawnYear_93 (hF.lt (by decide)) (hF.lx (by decide)) (hF.ka (by decide) rfl) (by omega) (by decide) ?_
        refine ez_nmI (fun I16 hI16 => ?_)
        have hK17 : zK n kd I0 L0 R0 (z_set (z_set (z_set g 101 0 (z_lk R)) 101 0 (z_lk (z_lk R))) 101 0 (z_lk (z_lk (z_lk R)))) I16 L Rf T (some (zup x (7 + bq) (z_dr (z_lk (z_lk (z_lk R))) 6))) Bf w := by rw [hI16]; exact hK14.tho hc7 (by omega)
        refine ez_aload_n (i := 0) dX10_drawnYear_94 rfl rfl ?_
        refine ez_getR dX10_drawnYear_95 flX10_26 (hF.lt (by decide)) (hF.kc (by decide) rfl) (hF.pt 4 rfl) ?_
        refine ez_callVm (M1 := mX6_begin) (rest := []) dX10_drawnYear_98 mlX10_192 mvX6_begin rfl (hF.lt (by decide)) (hF.kc (by decide) rfl) (Nat.le_of_ble_eq_true rfl) rfl (k_begin (T := T) (I := I16) (L := L) (d + 29) hK17.C (f + 0) _ (zBm T (zup x (7 + bq) (z_dr (z_lk (z_lk (z_lk R))) 6)))) (eb_vok rfl) ?_
        rintro _ _ _ rfl ⟨rfl, rfl⟩
        show ez_P _ _ _ _ _ _ 101 [(2, .int (nI bq)), (1, .int (z_dr (z_lk R) 4)), (0, .ref 0)] [] (n, sl, kd, I16, L, Rf) _
        refine ez_iconst (v := 0) dX10_drawnYear_101 (by decide) ?_
        have hyd := zyd_3 (T := T) (s := (R, x, 0)) (Int32.not_lt.mpr c5) c6 hc0
        have hqb : zBm T (zup x (7 + bq) (z_dr (z_lk (z_lk (z_lk R))) 6)) = zBm T (zyd T (R, x, 0)).2.1 := by rw [hyd]; show _ = zBm T (zup x (7 + (z_dr (z_lk (z_lk R)) (nI T.c)).toNatClampNeg) _); rw [ebq, nI_clamp (by omega)]
        refine ez_iret dX10_drawnYear_102 rfl rfl ?_ (hQ := hqb)
        rw [hyd]; exact ⟨rfl, _, _, rfl, (by show zK n kd I0 L0 R0 (z_set (z_set (z_set g 101 0 (z_lk R)) 101 0 (z_lk (z_lk R))) 101 0 (z_lk (z_lk (z_lk R)))) I16 L Rf T (some _) Bf w; rw [ebq, nI_clamp (by omega)]; exact hK17), hR15⟩
    · skip
      refine ez_aload_n (i := 0) dX10_drawnYear_32 rfl rfl ?_
      refine ez_getR dX10_drawnYear_33 flX10_37 (hF.lt (by decide)) (hF.kc (by decide) rfl) (hF.pt 25 rfl) ?_
      refine ez_aload_n (i := 0) dX10_drawnYear_36 rfl rfl ?_
      refine ez_getR dX10_drawnYear_37 flX10_73 (hF.lt (by decide)) (hF.kc (by decide) rfl) (hF.pt 98 rfl) ?_
      refine ez_bipush (v := 10) dX10_drawnYear_40 (by decide) ?_
      refine ez_callV (M1 := mX1_draw) (rest := [.ref 25]) dX10_drawnYear_42 mlX10_413 mvX1_draw rfl (hF.lt (by decide)) (hF.kc (by decide) rfl) (Nat.le_of_ble_eq_true rfl) rfl (y_X1_draw (I := I1) (L := L) (d + 29) (i := 101) ⟨hF.kc (by decide) rfl, hF.lt (by decide), hF.2.1⟩ rfl (m := 10) (by decide)) eb_rok1 ?_
      rintro _ _ ⟨rfl, rfl⟩
      have ge19 : I1 101 0 = z_lk R := (congrFun (hK3.g 101 (by unfold zgk; omega)) 0).trans hR4
      rw [ge19]
      refine ez_nmI (fun I18 hI18 => ?_)
      show ez_P _ _ _ _ _ _ 45 [(1, .int (z_dr (z_lk R) 4)), (0, .ref 0)] (.int (z_dr (z_lk (z_lk R)) 10) :: [.ref 25]) (n, sl, kd, I18, L, Rf) _
      have hK20 : zK n kd I0 L0 R0 (z_set (z_set g 101 0 (z_lk R)) 101 0 (z_lk (z_lk R))) I18 L Rf T (some x) Bf w := by rw [hI18]; exact hK3.gset (by unfold zgk; omega)
      have hR21 : (z_set (z_set g 101 0 (z_lk R)) 101 0 (z_lk (z_lk R))) 101 0 = z_lk (z_lk R) := z_set_at
      refine ez_pI dX10_drawnYear_45 plX10_272 (hF.lt (by decide)) (hF.lx (by decide)) (hF.kc (by decide) rfl) rfl rfl ?_
      refine ez_nmI (fun I22 hI22 => ?_)
      have hK23 : zK n kd I0 L0 R0 (z_set (z_set g 101 0 (z_lk R)) 101 0 (z_lk (z_lk R))) I22 L Rf T (some (zup x 21 (z_dr (z_lk (z_lk R)) 10))) Bf w := by rw [hI22]; exact hK20.sai hc7
      refine ez_goto (tgt := 101) dX10_drawnYear_48 (by decide) ?_
      refine ez_iconst (v := 0) dX10_drawnYear_101 (by decide) ?_
      have hyd := zyd_1 (T := T) (s := (R, x, 0)) (Int32.not_lt.mpr c5) (Classical.not_not.mp c6)
      have hqb : zBm T x = zBm T (zyd T (R, x, 0)).2.1 := by rw [hyd]; exact (zBm_cr hO.c (hx.sail hO.c (by obtain ⟨q, h1, h2⟩ := z_dr_n (z_lk (z_lk R)) (m := 10) (by decide) (by decide); exact ⟨q, h1, h2⟩)) (fun k hk => zup_ne (by omega))).symm
      refine ez_iret dX10_drawnYear_102 rfl rfl ?_ (hQ := hqb)
      rw [hyd]; exact ⟨rfl, _, _, rfl, (by show zK n kd I0 L0 R0 (z_set (z_set g 101 0 (z_lk R)) 101 0 (z_lk (z_lk R))) I22 L Rf T (some _) Bf w; exact hK23), hR21⟩
  · skip
    refine ez_aload_n (i := 0) dX10_drawnYear_14 rfl rfl ?_
    refine ez_getR dX10_drawnYear_15 flX10_26 (hF.lt (by decide)) (hF.kc (by decide) rfl) (hF.pt 4 rfl) ?_
    refine ez_aload_n (i := 0) dX10_drawnYear_18 rfl rfl ?_
    refine ez_getR dX10_drawnYear_19 flX10_37 (hF.lt (by decide)) (hF.kc (by decide) rfl) (hF.pt 25 rfl) ?_
    refine ez_iconst (v := 1) dX10_drawnYear_22 (by decide) ?_
    refine ez_callVm (M1 := mX6_letHoursGo) (rest := []) dX10_drawnYear_23 mlX10_195 mvX6_letHoursGo rfl (hF.lt (by decide)) (hF.kc (by decide) rfl) (Nat.le_of_ble_eq_true rfl) rfl (k_let (T := T) (I := I1) (L := L) (d + 24) hK3.C hO (j := 25) (by decide) (hK3.gs _ rfl) hx (by omega) (N := 1) (by omega) (y := x) (fun _ _ => rfl) (f + 1)) k_hp_ok ?_
    rintro _ _ _ rfl ⟨rfl, I24, rfl, hs25, hn26⟩
    show ez_P _ _ _ _ _ _ 26 [(1, .int (z_dr (z_lk R) 4)), (0, .ref 0)] (.int (zhc T x 1) :: []) (n, sl, kd, I24, L, Rf) _
    have hK27 : zK n kd I0 L0 R0 (z_set g 101 0 (z_lk R)) I24 L Rf T (some (zh1 T (zhw T x) x)) Bf w := by exact hK3.gu hs25 (fun c hc => hn26 c (by omega))
    have hyd := zyd_0 (T := T) (s := (R, x, 0)) (Int32.not_le.mp c5)
    have hqb : zBm T x = zBm T (zyd T (R, x, 0)).2.1 := by rw [hyd]; exact (zBm_cr hO.c (zh1_xr hx (zhw_wr hO.wm.1 hO.wd) hO.c) (fun k hk => zh1_o (by omega) (by omega) (by omega) (by omega) (by omega))).symm
    refine ez_iret dX10_drawnYear_26 rfl rfl ?_ (hQ := hqb)
    rw [hyd]; exact ⟨rfl, _, _, rfl, (by show zK n kd I0 L0 R0 (z_set g 101 0 (z_lk R)) I24 L Rf T (some _) Bf w; exact hK27), hR4⟩
theorem zyd_o {T : zT} {s : Int32 × (Nat → Int32) × Int32} : zyd T s = ((zyd T (s.1, s.2.1, 0)).1, (zyd T (s.1, s.2.1, 0)).2.1, s.2.2 + (zyd T (s.1, s.2.1, 0)).2.2) := by
  unfold zyd
  simp only
  split
  · rw [Int32.zero_add]
  · split
    · rw [Int32.add_zero]
    · split <;> rw [Int32.add_zero]
theorem c_years_ok {n : Nat} {sl : Nat × Nat} {kd : Nat → Nat × Nat} {I : Nat → Nat → Int32} {L : Nat → Nat → Int64} {Rf : Nat → Nat → Option Nat} (d : Nat) {T : zT} {H : Nat} (hC : zC n kd I L Rf T) (hO : zOk H T) (hH : H ≤ 1000000000) (seed : Int32) {n0 : Nat} (hn1 : 1 ≤ n0) (hn : n0 ≤ 60) (f : Nat) (B : Nat → Int32) : ez_Q (f + 100) B f (fun _ => True) mX10_years (d + 60) [.ref 0, .int seed, .int (nI n0)] (n, sl, kd, I, L, Rf) (zpC n sl kd I L Rf (some (.int (s_years T seed (nI n0)).1)) (s_years T seed (nI n0)).2) := by
  have hF := hC.F; have hc7 := hO.c
  have hK0 : zK n kd I L Rf I I L Rf T none none false := zK.start hC
  refine ez_meth pn_X.2.2.2.2.2.2.2.2.2.2.1 (Nat.le_of_ble_eq_true rfl) ?_
  show ez_P _ _ _ _ _ _ 0 [(0, .ref 0), (1, .int seed), (2, .int (nI n0))] [] (n, sl, kd, I, L, Rf) _
  refine ez_iload_n (i := 2) dX10_years_0 rfl rfl ?_
  refine ez_iconst (v := 1) dX10_years_1 (by decide) ?_
  refine ez_bipush (v := 60) dX10_years_2 (by decide) ?_
  refine ez_callS (M1 := mX10_within) (rest := []) dX10_years_4 mlX10_158 msX10_within rfl (Nat.le_of_ble_eq_true rfl) rfl (zq_b1 (z_n19 (N := 60) hn1 hn (by decide)) (zq_b (q_X10_within (d + 59) (nI n0) 1 60) (n, sl, kd, I, L, Rf))) eb_rok ?_
  rintro _ _ ⟨rfl, rfl⟩
  show ez_P _ _ _ _ _ _ 7 [(0, .ref 0), (1, .int seed), (2, .int (nI n0))] (.int 1 :: []) _ _
  refine ez_if_ne (tgt := 12) dX10_years_7 (by decide) (fun c1 => ?_) (fun c1 => absurd (by decide) c1)
  refine ez_aload_n (i := 0) dX10_years_12 rfl rfl ?_
  refine ez_callVm (M1 := mX10_lookAhead) (rest := []) dX10_years_13 mlX10_282 mvX10_lookAhead rfl (hF.lt (by decide)) (hF.kc (by decide) rfl) (Nat.le_of_ble_eq_true rfl) rfl (k_look (T := T) (I := I) (L := L) (d + 39) hK0.C hO (f + 99) _) (eb_vok rfl) ?_
  rintro _ _ _ rfl ⟨rfl, rfl⟩
  refine ez_nmI (fun I2 hI2 => ?_)
  show ez_P _ _ _ _ _ _ 16 [(0, .ref 0), (1, .int seed), (2, .int (nI n0))] [] (n, sl, kd, I2, L, Rf) _
  have hK3 : zK n kd I L Rf I I2 L Rf T (some T.x) none false := by rw [hI2]; exact hK0.cpg
  refine ez_aload_n (i := 0) dX10_years_16 rfl rfl ?_
  refine ez_getR dX10_years_17 flX10_73 (hF.lt (by decide)) (hF.kc (by decide) rfl) (hF.pt 98 rfl) ?_
  refine ez_iload_n (i := 1) dX10_years_20 rfl rfl ?_
  refine ez_callV (M1 := mX1_start) (rest := []) dX10_years_21 mlX10_406 mvX1_start rfl (hF.lt (by decide)) (hF.kc (by decide) rfl) (Nat.le_of_ble_eq_true rfl) rfl (y_X1_start (I := I2) (L := L) (d + 59) (i := 101) ⟨hF.kc (by decide) rfl, hF.lt (by decide), hF.2.1⟩ rfl seed) (eb_vok rfl) ?_
  rintro _ _ ⟨rfl, rfl⟩
  refine ez_nmI (fun I4 hI4 => ?_)
  show ez_P _ _ _ _ _ _ 24 [(0, .ref 0), (1, .int seed), (2, .int (nI n0))] [] (n, sl, kd, I4, L, Rf) _
  have hK5 : zK n kd I L Rf (z_set I 101 0 seed) I4 L Rf T (some T.x) none false := by rw [hI4]; exact hK3.gset (by unfold zgk; omega)
  refine ez_iconst (v := 0) dX10_years_24 (by decide) ?_
  refine ez_istore_n (l' := [(3, .int 0), (0, .ref 0), (1, .int seed), (2, .int (nI n0))]) dX10_years_25 rfl (by decide) rfl ?_
  refine ez_iconst (v := 0) dX10_years_26 (by decide) ?_
  refine ez_istore (l' := [(4, .int 0), (3, .int 0), (0, .ref 0), (1, .int seed), (2, .int (nI n0))]) dX10_years_27 (by decide) rfl ?_
  refine ez_le (f' := f + (99 - 0)) (by omega) ?_
  refine ez_forB n0 (fun k => f + (99 - k)) (fun k (a : (Nat → Nat → Int32) × (Nat → Nat → Int32) × Int32) => ([(4, .int (nI k)), (3, .int a.2.2), (0, .ref 0), (1, .int seed), (2, .int (nI n0))], (n, sl, kd, a.1, L, Rf))) (fun k B a => (zK n kd I L Rf a.2.1 a.1 L Rf T (some ((a_years T seed k).2.1)) none false ∧ a.2.1 101 0 = (a_years T seed k).1 ∧ a.2.2 = (a_years T seed k).2.2) ∧ B = zBm T (a_years T seed k).2.1) ?_ ?_ n0 0 _ (I4, z_set I 101 0 seed, 0) (by omega) ⟨⟨hK5, (show z_set I 101 0 seed 101 0 = seed from z_set_at), rfl⟩, rfl⟩
  · rintro k _ ⟨Ia, gg, ov⟩ hk ⟨⟨hKl, hex⟩, rfl⟩ ih
    have hKl : zK n kd I L Rf gg Ia L Rf T (some ((a_years T seed k).2.1)) none false := hKl
    have hex : gg 101 0 = (a_years T seed k).1 ∧ ov = (a_years T seed k).2.2 := hex
    refine ez_le (f' := f + (99 - (k + 1)) + 1) (by omega) ?_
    show ez_P _ _ _ _ _ _ 29 [(4, .int (nI k)), (3, .int ov), (0, .ref 0), (1, .int seed), (2, .int (nI n0))] [] (n, sl, kd, Ia, L, Rf) _
    refine ez_iload (i := 4) dX10_years_29 rfl ?_
    refine ez_iload_n (i := 2) dX10_years_31 rfl rfl ?_
    refine ez_icmp_ge (tgt := 48) dX10_years_32 (by decide) (fun c6 => absurd c6 (nI_ge hk (by omega))) (fun c6 => ?_)
    refine ez_iload_n (i := 3) dX10_years_35 rfl rfl ?_
    refine ez_aload_n (i := 0) dX10_years_36 rfl rfl ?_
    refine ez_callVm (M1 := mX10_drawnYear) (rest := [.int ov]) dX10_years_37 mlX10_407 mvX10_drawnYear rfl (hF.lt (by decide)) (hF.kc (by decide) rfl) (Nat.le_of_ble_eq_true rfl) rfl (k_year (T := T) (I := Ia) (L := L) (d + 29) hKl hO hH (a_years_xr hO k) (by omega) hex.1 (f + (99 - (k + 1)))) zpKg_ok ?_
    rintro _ _ _ rfl ⟨rfl, I7, gz, rfl, hK8, hgz⟩
    have hyo0 := zyd_o (T := T) (s := a_years T seed k)
    generalize hz : zyd T ((a_years T seed k).1, (a_years T seed k).2.1, 0) = z at *
    obtain ⟨zr, zx, zo⟩ := z
    show ez_P _ _ _ _ _ _ 40 [(4, .int (nI k)), (3, .int ov), (0, .ref 0), (1, .int seed), (2, .int (nI n0))] (.int zo :: [.int ov]) (n, sl, kd, I7, L, Rf) _
    have hK8 : zK n kd I L Rf gz I7 L Rf T (some zx) none false := hK8
    have hyo : a_years T seed (k + 1) = (zr, zx, (a_years T seed k).2.2 + zo) := hyo0
    refine ez_iadd dX10_years_40 ?_
    refine ez_istore_n (l' := [(3, .int (ov + zo)), (4, .int (nI k)), (0, .ref 0), (1, .int seed), (2, .int (nI n0))]) dX10_years_41 rfl (by decide) rfl ?_
    refine ez_iinc (v := (nI (k + 1))) (l' := [(4, .int ((nI (k + 1)))), (3, .int (ov + zo)), (0, .ref 0), (1, .int seed), (2, .int (nI n0))]) dX10_years_42 rfl (nI_1 _) (by decide) rfl ?_
    refine ez_goto (tgt := 29) dX10_years_45 (by decide) ?_
    exact ez_eq (l2 := [(4, .int (nI (k + 1))), (3, .int (ov + zo)), (0, .ref 0), (1, .int seed), (2, .int (nI n0))]) rfl rfl rfl rfl (ih _ (I7, gz, ov + zo) ⟨⟨by rw [hyo]; exact hK8, by rw [hyo]; exact hgz, by rw [hyo]; show ov + zo = (a_years T seed k).2.2 + zo; rw [← hex.2]⟩, by rw [hyo]⟩)
  · rintro _ ⟨Ia, gg, ov⟩ ⟨⟨hKl, hex⟩, rfl⟩
    have hKl : zK n kd I L Rf gg Ia L Rf T (some ((a_years T seed n0).2.1)) none false := hKl
    have hex : gg 101 0 = (a_years T seed n0).1 ∧ ov = (a_years T seed n0).2.2 := hex
    show ez_P _ _ _ _ _ _ 29 [(4, .int (nI n0)), (3, .int ov), (0, .ref 0), (1, .int seed), (2, .int (nI n0))] [] (n, sl, kd, Ia, L, Rf) _
    refine ez_iload (i := 4) dX10_years_29 rfl ?_
    refine ez_iload_n (i := 2) dX10_years_31 rfl rfl ?_
    refine ez_icmp_ge (tgt := 48) dX10_years_32 (by decide) (fun c9 => ?_) (fun c9 => absurd (nI_le (Nat.le_refl _) (by omega)) c9)
    refine ez_aload_n (i := 0) dX10_years_48 rfl rfl ?_
    refine ez_getR dX10_years_49 flX10_19 (hF.lt (by decide)) (hF.kc (by decide) rfl) (hF.pt 3 rfl) ?_
    refine ez_aload_n (i := 0) dX10_years_52 rfl rfl ?_
    refine ez_getR dX10_years_53 flX10_37 (hF.lt (by decide)) (hF.kc (by decide) rfl) (hF.pt 25 rfl) ?_
    refine ez_getI dX10_years_56 flX10_201 (hF.lt (by decide)) (hF.kc (by decide) rfl) ?_
    refine ez_topE (y := ((a_years T seed n0).2.1) 23) (hKl.gs _ rfl).lg ?_
    refine ez_aload_n (i := 0) dX10_years_59 rfl rfl ?_
    refine ez_getR dX10_years_60 flX10_33 (hF.lt (by decide)) (hF.kc (by decide) rfl) (hF.pt 21 rfl) ?_
    refine ez_getI dX10_years_63 flX10_201 (hF.lt (by decide)) (hF.kc (by decide) rfl) ?_
    refine ez_topE (y := T.x 23) hKl.C.sh.lg ?_
    refine ez_isub dX10_years_66 ?_
    refine ez_iload_n (i := 3) dX10_years_67 rfl rfl ?_
    refine ez_callV (M1 := mX4_tell_) (rest := []) dX10_years_68 mlX10_204 mvX4_tell_ rfl (hF.lt (by decide)) (hF.kc (by decide) rfl) (Nat.le_of_ble_eq_true rfl) rfl (y_X4_tell_ (I := Ia) (L := L) (d + 58) hF ((((a_years T seed n0).2.1) 23) - (T.x 23)) ov) z_tok ?_
    rintro _ _ ⟨rfl, I10, L11, rfl, hr12, ho13⟩
    show ez_P _ _ _ _ _ _ 71 [(4, .int (nI n0)), (3, .int ov), (0, .ref 0), (1, .int seed), (2, .int (nI n0))] [] (n, sl, kd, I10, L11, Rf) _
    have hK14 : zK n kd I L Rf gg I10 L11 Rf (T.w_rw [((((a_years T seed n0).2.1) 23) - (T.x 23)).toInt64, ov.toInt64]) (some ((a_years T seed n0).2.1)) none false := by exact hKl.tell hr12 ho13
    refine ez_bipush (v := 100) dX10_years_71 (by decide) ?_
    refine ez_aload_n (i := 0) dX10_years_73 rfl rfl ?_
    refine ez_getR dX10_years_74 flX10_37 (hF.lt (by decide)) (hF.kc (by decide) rfl) (hF.pt 25 rfl) ?_
    refine ez_getI dX10_years_77 flX10_208 (hF.lt (by decide)) (hF.kc (by decide) rfl) ?_
    refine ez_topE (y := ((a_years T seed n0).2.1) 22) (hK14.gs _ rfl).l ?_
    refine ez_iadd dX10_years_80 ?_
    refine ez_iret dX10_years_81 rfl rfl ?_
    rw [show s_years T seed (nI n0) = (100 + (a_years T seed n0).2.1 22, T.w_rw [((a_years T seed n0).2.1 23 - T.x 23).toInt64, ov.toInt64]) from by unfold s_years; rw [if_pos ⟨(z_n19 (N := 60) hn1 hn (by decide)).1, (z_n19 (N := 60) hn1 hn (by decide)).2⟩, nI_clamp (by omega), hex.2]]
    exact hK14.end
theorem c_years_no {n : Nat} {sl : Nat × Nat} {kd : Nat → Nat × Nat} {I : Nat → Nat → Int32} {L : Nat → Nat → Int64} {Rf : Nat → Nat → Option Nat} (d : Nat) {T : zT} {H : Nat} (hC : zC n kd I L Rf T) (hO : zOk H T) (hH : H ≤ 1000000000) (seed : Int32) {v : Int32} (hn : ¬ (1 ≤ v ∧ v ≤ 60)) (f : Nat) (B : Nat → Int32) : ez_Q (f + 100) B f (fun _ => True) mX10_years (d + 60) [.ref 0, .int seed, .int v] (n, sl, kd, I, L, Rf) (zpC n sl kd I L Rf (some (.int (s_years T seed v).1)) (s_years T seed v).2) := by
  have hF := hC.F; have hc7 := hO.c
  have hK0 : zK n kd I L Rf I I L Rf T none none false := zK.start hC
  have hsp : s_years T seed v = ((-1), T) := (by unfold s_years; rw [if_neg hn])
  rw [hsp]
  refine ez_meth pn_X.2.2.2.2.2.2.2.2.2.2.1 (Nat.le_of_ble_eq_true rfl) ?_
  show ez_P _ _ _ _ _ _ 0 [(0, .ref 0), (1, .int seed), (2, .int v)] [] (n, sl, kd, I, L, Rf) _
  refine ez_iload_n (i := 2) dX10_years_0 rfl rfl ?_
  refine ez_iconst (v := 1) dX10_years_1 (by decide) ?_
  refine ez_bipush (v := 60) dX10_years_2 (by decide) ?_
  refine ez_callS (M1 := mX10_within) (rest := []) dX10_years_4 mlX10_158 msX10_within rfl (Nat.le_of_ble_eq_true rfl) rfl (zq_b0 hn (zq_b (q_X10_within (d + 59) v 1 60) (n, sl, kd, I, L, Rf))) eb_rok ?_
  rintro _ _ ⟨rfl, rfl⟩
  show ez_P _ _ _ _ _ _ 7 [(0, .ref 0), (1, .int seed), (2, .int v)] (.int 0 :: []) _ _
  refine ez_if_ne (tgt := 12) dX10_years_7 (by decide) (fun c1 => absurd c1 (by decide)) (fun c1 => ?_)
  refine ez_iconst (v := (-1)) dX10_years_10 (by decide) ?_
  refine ez_iret dX10_years_11 rfl rfl ?_
  exact hK0.end
theorem c_years {n : Nat} {sl : Nat × Nat} {kd : Nat → Nat × Nat} {I : Nat → Nat → Int32} {L : Nat → Nat → Int64} {Rf : Nat → Nat → Option Nat} (d : Nat) {T : zT} {H : Nat} (hC : zC n kd I L Rf T) (hO : zOk H T) (hH : H ≤ 1000000000) (seed v : Int32) (f : Nat) (B : Nat → Int32) : ez_Q (f + 100) B f (fun _ => True) mX10_years (d + 60) [.ref 0, .int seed, .int v] (n, sl, kd, I, L, Rf) (zpC n sl kd I L Rf (some (.int (s_years T seed v).1)) (s_years T seed v).2) := by
  by_cases hn : 1 ≤ v ∧ v ≤ 60
  · obtain ⟨n0, h1, hn0, rfl⟩ := z_pk1 (lo := 1) (N := 60) hn (by decide) (by decide)
    exact c_years_ok d hC hO hH seed h1 hn0 f B
  · exact c_years_no d hC hO hH seed hn f B
