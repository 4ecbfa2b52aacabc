/-! the law's cases -/
abbrev mL_law : eb_M := (yL_law, cL_law, 8, some .boolean)
theorem zpXc_ok {n : Nat} {sl : Nat × Nat} {kd : Nat → Nat × Nat} {I : Nat → Nat → Int32} {L : Nat → Nat → Int64} {Rf : Nat → Nat → Option Nat} {T T1 : zT} {f : Nat} {v : Option Value} {l : List (Nat × Value)} {rest : List Value} : ∀ r1 σ1, zpXc n sl kd I L Rf T T1 f v r1 σ1 → σ1.1 = n ∨ ((∀ q ∈ l, eb_okv n q.2) ∧ ∀ v ∈ rest, eb_okv n v) := fun _ _ h => Or.inl (by obtain ⟨_, _, _, _, h, _⟩ := h; rw [h])
theorem z_clsF {n : Nat} {sl : Nat × Nat} {kd : Nat → Nat × Nat} {I : Nat → Nat → Int32} {L : Nat → Nat → Int64} {Rf : Nat → Nat → Option Nat} {T T1 : zT} {f : Nat} {B : Nat → Int32} {M : eb_M} {d : Nat} {as : List Value} {v : Option Value} (hM : zM n kd I L Rf T) (hI : zInv (f + 100) B I) (h : ez_Q (f + 100) B f (fun _ => True) M d as (n, sl, kd, I, L, Rf) (zpC n sl kd I L Rf v T1)) : eb_Q M d as (n, sl, kd, I, L, Rf) (zpXc n sl kd I L Rf T T1 f v) := by
  refine (h I Rf (zE.rf hI)).to ?_
  rintro r ⟨tn, tsl, tkd, tI, tL, tR⟩ ⟨Ia, Ra, C, -, hE, rfl, I1, L1, R1, he, hC1, hf⟩
  obtain ⟨rfl, rfl, rfl, rfl, rfl, rfl⟩ : tn = n ∧ tsl = sl ∧ tkd = kd ∧ Ia = I1 ∧ tL = L1 ∧ Ra = R1 := by
    have := he
    simp only [Prod.mk.injEq] at this
    exact this
  have hE : zE f C Ia tI Ra tR := hE
  refine ⟨rfl, tI, tL, tR, rfl, hC1.E hE, (hM.cg hC1.F (fun c h1 _ => (hf c h1).1) (hf 117 (by decide)).2.1 (congrFun (hf 112 (by decide)).2.2 16)).E hE, ⟨C, hE.2.2⟩, ?_⟩
  rw [hE.cell (c := 1000060) (by unfold znc; omega)]; exact (hf 1000060 (by decide)).1
theorem z_clsQ {n : Nat} {sl : Nat × Nat} {kd : Nat → Nat × Nat} {I : Nat → Nat → Int32} {L : Nat → Nat → Int64} {Rf : Nat → Nat → Option Nat} {T T1 : zT} {f : Nat} {B : Nat → Int32} {M : eb_M} {d : Nat} {as : List Value} {v : Option Value} (hM : zM n kd I L Rf T) (hI : zInv (f + 100) B I) (h : zq M d as (n, sl, kd, I, L, Rf) (zpC n sl kd I L Rf v T1)) : eb_Q M d as (n, sl, kd, I, L, Rf) (zpXc n sl kd I L Rf T T1 f v) :=
  z_clsF hM hI (fun I' R' h7 => (h (f + 100) B I' R' h7).to (fun r τ hp => by obtain ⟨Ia, Ra, C, hC, hE, hφ⟩ := hp; exact ⟨Ia, Ra, C, trivial, hE.le (by omega), hφ⟩))
/-- behind a call on the reference: both have come to the same state -/
def zpY (n : Nat) (sl : Nat × Nat) (kd : Nat → Nat × Nat) (I : Nat → Nat → Int32) (T1 : zT) (f : Nat) (t : Int32) (v : Option Value) : Option Value → eb_S → Prop := fun r τ => r = v ∧ ∃ I1 L1 R1, τ = (n, sl, kd, I1, L1, R1) ∧ zC n kd I1 L1 R1 T1 ∧ zM n kd I1 L1 R1 T1 ∧ (∃ B, zInv f B I1) ∧ I1 112 9 = t ∧ I1 1000060 = I 1000060
theorem zpY_ok {n : Nat} {sl : Nat × Nat} {kd : Nat → Nat × Nat} {I : Nat → Nat → Int32} {T1 : zT} {f : Nat} {t : Int32} {v : Option Value} {l : List (Nat × Value)} {rest : List Value} : ∀ r1 σ1, zpY n sl kd I T1 f t v r1 σ1 → σ1.1 = n ∨ ((∀ q ∈ l, eb_okv n q.2) ∧ ∀ v ∈ rest, eb_okv n v) := fun _ _ h => Or.inl (by obtain ⟨_, _, _, _, h, _⟩ := h; rw [h])
theorem z_refQ {n : Nat} {sl : Nat × Nat} {kd : Nat → Nat × Nat} {I : Nat → Nat → Int32} {L : Nat → Nat → Int64} {Rf : Nat → Nat → Option Nat} {T1 : zT} {f : Nat} {B : Nat → Int32} {M : eb_M} {d : Nat} {as : List Value} {v : Option Value} (hC : zC n kd I L Rf T1) (hI : zInv f B I) (h : zq M d as (n, sl, kd, I, L, Rf) (zpM n sl kd I L Rf v T1)) : eb_Q M d as (n, sl, kd, I, L, Rf) (zpY n sl kd I T1 f 0 v) := by
  refine (h f B I Rf (zE.rf hI)).to ?_
  rintro r ⟨tn, tsl, tkd, tI, tL, tR⟩ ⟨Ia, Ra, C, hC7, hE, rfl, I1, L1, R1, he, hM1, h9, hf⟩
  obtain ⟨rfl, rfl, rfl, rfl, rfl, rfl⟩ : tn = n ∧ tsl = sl ∧ tkd = kd ∧ Ia = I1 ∧ tL = L1 ∧ Ra = R1 := by
    have := he
    simp only [Prod.mk.injEq] at this
    exact this
  have hE : zE f C Ia tI Ra tR := hE
  refine ⟨rfl, tI, tL, tR, rfl, (hC.cg hM1.F rfl (fun c hc => (hf c (by omega)).1) (hf 4 (by decide)).2.1 (fun c hc => (hf c (by omega)).2.2)).E hE, hM1.E hE, ⟨C, hE.2.2⟩, ?_, ?_⟩
  · rw [hE.1 112 9 (by unfold zscr; omega)]; exact h9
  · rw [hE.cell (c := 1000060) (by unfold znc; omega)]; exact (hf 1000060 (by decide)).1
/-- what a case of the law goes on with -/
def zIH (d k N : Nat) (sl : Nat × Nat) (kd : Nat → Nat × Nat) (xs : Nat → Int32) (H f : Nat) (Φ : Option Value → eb_S → Prop) : Prop := ∀ sl' I' L' R' T', sl'.1 ≤ sl.1 + 1 → sl'.2 ≤ sl.2 + 6 → zL 138 kd I' L' R' T' (H + 270) f → I' 1000060 = xs → eb_P mL_law (d + 401) 1563 [(4, .int (nI (5 * k))), (3, .ref 137), (2, .ref 112), (1, .ref 0), (0, .ref 1000060)] [] (138, sl', kd, I', L', R') Φ
theorem lc_0 (d : Nat) {k N f H : Nat} {sl : Nat × Nat} {kd : Nat → Nat × Nat} {I : Nat → Nat → Int32} {L : Nat → Nat → Int64} {Rf : Nat → Nat → Option Nat} {T : zT} {xs : Nat → Int32} {Φ : Option Value → eb_S → Prop} (hL : zL 138 kd I L Rf T H (f + 100)) (hx : I 1000060 = xs) (hkN : (kd 1000060).2 = N) (hk5 : 5 * k + 5 ≤ N) (hN : N ≤ 2560) (hH : H ≤ 800000000) (ih : zIH d k N sl kd xs H f Φ) : eb_P mL_law (d + 401) 256 [(4, .int (nI (5 * k))), (3, .ref 137), (2, .ref 112), (1, .ref 0), (0, .ref 1000060)] [] (138, sl, kd, I, L, Rf) Φ := by
  obtain ⟨B0, hB0⟩ := hL.2.2.2
  refine ep_aload_n (i := 1) dL_law_256 rfl rfl ?_
  refine ep_aload_n (i := 0) dL_law_257 rfl rfl ?_
  refine ep_iload (i := 4) dL_law_258 rfl ?_
  refine ep_iconst (v := 1) dL_law_260 (by decide) ?_
  refine ep_iadd dL_law_261 ?_
  refine ep_topE (y := nI (5 * k + 1)) (nI_add _ _) ?_
  refine ep_xi dL_law_262 (Or.inr rfl) hkN (vp_in_nI (by omega) (by omega)) ?_
  refine ep_topE (y := xs (5 * k + 1)) (by rw [nI_clamp (by omega)]; exact congrFun hx _) ?_
  refine ep_callV (i := 0) (M1 := mX10_sign) (rest := []) dL_law_263 mlL_27 mvX10_sign rfl (Nat.le_of_ble_eq_true rfl) (hL.1.F.kc (by decide) rfl) (Nat.le_of_ble_eq_true rfl) rfl (z_clsQ (f := f) hL.2.1 hB0 (c_sign (d + 340) hL.1 hL.2.2.1 (by omega) (xs (5 * k + 1)))) zpXc_ok ?_
  rintro _ _ ⟨rfl, I1, L1, R1, rfl, hC1, hM1, ⟨B1, hB1⟩, hx1⟩
  show eb_P _ _ 266 [(4, .int (nI (5 * k))), (3, .ref 137), (2, .ref 112), (1, .ref 0), (0, .ref 1000060)] [.int ((s_sign T (xs (5 * k + 1))).1)] (138, sl, kd, I1, L1, R1) _
  replace hx1 : I1 1000060 = xs := hx1.trans hx
  refine ep_aload_n (i := 2) dL_law_266 rfl rfl ?_
  refine ep_aload_n (i := 0) dL_law_267 rfl rfl ?_
  refine ep_iload (i := 4) dL_law_268 rfl ?_
  refine ep_iconst (v := 1) dL_law_270 (by decide) ?_
  refine ep_iadd dL_law_271 ?_
  refine ep_topE (y := nI (5 * k + 1)) (nI_add _ _) ?_
  refine ep_xi dL_law_272 (Or.inr rfl) hkN (vp_in_nI (by omega) (by omega)) ?_
  refine ep_topE (y := xs (5 * k + 1)) (by rw [nI_clamp (by omega)]; exact congrFun hx1 _) ?_
  refine ep_callV (i := 112) (M1 := mX11_sign) (rest := [.int ((s_sign T (xs (5 * k + 1))).1)]) dL_law_273 mlL_30 mvX11_sign rfl (Nat.le_of_ble_eq_true rfl) (hC1.F.kc (by decide) rfl) (Nat.le_of_ble_eq_true rfl) rfl (z_refQ (f := f) hC1 hB1 (y_X11_sign (d + 380) hM1 hL.2.2.1 (xs (5 * k + 1)))) zpY_ok ?_
  rintro _ _ ⟨rfl, I2, L2, R2, rfl, hC2, hM2, hB2, h9, hx2⟩
  show eb_P _ _ 276 [(4, .int (nI (5 * k))), (3, .ref 137), (2, .ref 112), (1, .ref 0), (0, .ref 1000060)] [.int ((s_sign T (xs (5 * k + 1))).1), .int ((s_sign T (xs (5 * k + 1))).1)] (138, sl, kd, I2, L2, R2) _
  replace hx2 : I2 1000060 = xs := hx2.trans hx1
  refine ep_icmp_eq (tgt := 1563) dL_law_276 (by decide) (fun _ => ?_) (fun h => absurd rfl h)
  exact ih sl I2 L2 R2 _ (Nat.le_add_right _ _) (Nat.le_add_right _ _) ⟨hC2, hM2, (o_sign hL.2.2.1 (xs (5 * k + 1))).le (by omega), hB2⟩ hx2
theorem lc_1 (d : Nat) {k N f H : Nat} {sl : Nat × Nat} {kd : Nat → Nat × Nat} {I : Nat → Nat → Int32} {L : Nat → Nat → Int64} {Rf : Nat → Nat → Option Nat} {T : zT} {xs : Nat → Int32} {Φ : Option Value → eb_S → Prop} (hL : zL 138 kd I L Rf T H (f + 100)) (hx : I 1000060 = xs) (hkN : (kd 1000060).2 = N) (hk5 : 5 * k + 5 ≤ N) (hN : N ≤ 2560) (hH : H ≤ 800000000) (ih : zIH d k N sl kd xs H f Φ) : eb_P mL_law (d + 401) 281 [(4, .int (nI (5 * k))), (3, .ref 137), (2, .ref 112), (1, .ref 0), (0, .ref 1000060)] [] (138, sl, kd, I, L, Rf) Φ := by
  obtain ⟨B0, hB0⟩ := hL.2.2.2
  refine ep_aload_n (i := 1) dL_law_281 rfl rfl ?_
  refine ep_aload_n (i := 0) dL_law_282 rfl rfl ?_
  refine ep_iload (i := 4) dL_law_283 rfl ?_
  refine ep_iconst (v := 1) dL_law_285 (by decide) ?_
  refine ep_iadd dL_law_286 ?_
  refine ep_topE (y := nI (5 * k + 1)) (nI_add _ _) ?_
  refine ep_xi dL_law_287 (Or.inr rfl) hkN (vp_in_nI (by omega) (by omega)) ?_
  refine ep_topE (y := xs (5 * k + 1)) (by rw [nI_clamp (by omega)]; exact congrFun hx _) ?_
  refine ep_callV (i := 0) (M1 := mX10_end) (rest := []) dL_law_288 mlL_31 mvX10_end rfl (Nat.le_of_ble_eq_true rfl) (hL.1.F.kc (by decide) rfl) (Nat.le_of_ble_eq_true rfl) rfl (z_clsQ (f := f) hL.2.1 hB0 (c_end (d + 340) hL.1 hL.2.2.1 (by omega) (xs (5 * k + 1)))) zpXc_ok ?_
  rintro _ _ ⟨rfl, I1, L1, R1, rfl, hC1, hM1, ⟨B1, hB1⟩, hx1⟩
  show eb_P _ _ 291 [(4, .int (nI (5 * k))), (3, .ref 137), (2, .ref 112), (1, .ref 0), (0, .ref 1000060)] [.int ((s_end T (xs (5 * k + 1))).1)] (138, sl, kd, I1, L1, R1) _
  replace hx1 : I1 1000060 = xs := hx1.trans hx
  refine ep_aload_n (i := 2) dL_law_291 rfl rfl ?_
  refine ep_aload_n (i := 0) dL_law_292 rfl rfl ?_
  refine ep_iload (i := 4) dL_law_293 rfl ?_
  refine ep_iconst (v := 1) dL_law_295 (by decide) ?_
  refine ep_iadd dL_law_296 ?_
  refine ep_topE (y := nI (5 * k + 1)) (nI_add _ _) ?_
  refine ep_xi dL_law_297 (Or.inr rfl) hkN (vp_in_nI (by omega) (by omega)) ?_
  refine ep_topE (y := xs (5 * k + 1)) (by rw [nI_clamp (by omega)]; exact congrFun hx1 _) ?_
  refine ep_callV (i := 112) (M1 := mX11_end) (rest := [.int ((s_end T (xs (5 * k + 1))).1)]) dL_law_298 mlL_35 mvX11_end rfl (Nat.le_of_ble_eq_true rfl) (hC1.F.kc (by decide) rfl) (Nat.le_of_ble_eq_true rfl) rfl (z_refQ (f := f) hC1 hB1 (y_X11_end (d + 380) hM1 hL.2.2.1 (xs (5 * k + 1)))) zpY_ok ?_
  rintro _ _ ⟨rfl, I2, L2, R2, rfl, hC2, hM2, hB2, h9, hx2⟩
  show eb_P _ _ 301 [(4, .int (nI (5 * k))), (3, .ref 137), (2, .ref 112), (1, .ref 0), (0, .ref 1000060)] [.int ((s_end T (xs (5 * k + 1))).1), .int ((s_end T (xs (5 * k + 1))).1)] (138, sl, kd, I2, L2, R2) _
  replace hx2 : I2 1000060 = xs := hx2.trans hx1
  refine ep_icmp_eq (tgt := 1563) dL_law_301 (by decide) (fun _ => ?_) (fun h => absurd rfl h)
  exact ih sl I2 L2 R2 _ (Nat.le_add_right _ _) (Nat.le_add_right _ _) ⟨hC2, hM2, (o_end hL.2.2.1 (xs (5 * k + 1))).le (by omega), hB2⟩ hx2
theorem lc_2 (d : Nat) {k N f H : Nat} {sl : Nat × Nat} {kd : Nat → Nat × Nat} {I : Nat → Nat → Int32} {L : Nat → Nat → Int64} {Rf : Nat → Nat → Option Nat} {T : zT} {xs : Nat → Int32} {Φ : Option Value → eb_S → Prop} (hL : zL 138 kd I L Rf T H (f + 100)) (hx : I 1000060 = xs) (hkN : (kd 1000060).2 = N) (hk5 : 5 * k + 5 ≤ N) (hN : N ≤ 2560) (hH : H ≤ 800000000) (ih : zIH d k N sl kd xs H f Φ) : eb_P mL_law (d + 401) 306 [(4, .int (nI (5 * k))), (3, .ref 137), (2, .ref 112), (1, .ref 0), (0, .ref 1000060)] [] (138, sl, kd, I, L, Rf) Φ := by
  obtain ⟨B0, hB0⟩ := hL.2.2.2
  refine ep_aload_n (i := 1) dL_law_306 rfl rfl ?_
  refine ep_callV (i := 0) (M1 := mX10_thoughts) (rest := []) dL_law_307 mlL_36 mvX10_thoughts rfl (Nat.le_of_ble_eq_true rfl) (hL.1.F.kc (by decide) rfl) (Nat.le_of_ble_eq_true rfl) rfl (z_clsQ (f := f) hL.2.1 hB0 (c_thoughts (d + 340) hL.1 hL.2.2.1 (by omega))) zpXc_ok ?_
  rintro _ _ ⟨rfl, I1, L1, R1, rfl, hC1, hM1, ⟨B1, hB1⟩, hx1⟩
  show eb_P _ _ 310 [(4, .int (nI (5 * k))), (3, .ref 137), (2, .ref 112), (1, .ref 0), (0, .ref 1000060)] [.int ((s_thoughts T).1)] (138, sl, kd, I1, L1, R1) _
  replace hx1 : I1 1000060 = xs := hx1.trans hx
  refine ep_aload_n (i := 2) dL_law_310 rfl rfl ?_
  refine ep_callV (i := 112) (M1 := mX11_thoughts) (rest := [.int ((s_thoughts T).1)]) dL_law_311 mlL_40 mvX11_thoughts rfl (Nat.le_of_ble_eq_true rfl) (hC1.F.kc (by decide) rfl) (Nat.le_of_ble_eq_true rfl) rfl (z_refQ (f := f) hC1 hB1 (y_X11_thoughts (d + 380) hM1 hL.2.2.1)) zpY_ok ?_
  rintro _ _ ⟨rfl, I2, L2, R2, rfl, hC2, hM2, hB2, h9, hx2⟩
  show eb_P _ _ 314 [(4, .int (nI (5 * k))), (3, .ref 137), (2, .ref 112), (1, .ref 0), (0, .ref 1000060)] [.int ((s_thoughts T).1), .int ((s_thoughts T).1)] (138, sl, kd, I2, L2, R2) _
  replace hx2 : I2 1000060 = xs := hx2.trans hx1
  refine ep_icmp_eq (tgt := 1563) dL_law_314 (by decide) (fun _ => ?_) (fun h => absurd rfl h)
  exact ih sl I2 L2 R2 _ (Nat.le_add_right _ _) (Nat.le_add_right _ _) ⟨hC2, hM2, (o_thoughts hL.2.2.1).le (by omega), hB2⟩ hx2
theorem lc_3 (d : Nat) {k N f H : Nat} {sl : Nat × Nat} {kd : Nat → Nat × Nat} {I : Nat → Nat → Int32} {L : Nat → Nat → Int64} {Rf : Nat → Nat → Option Nat} {T : zT} {xs : Nat → Int32} {Φ : Option Value → eb_S → Prop} (hL : zL 138 kd I L Rf T H (f + 100)) (hx : I 1000060 = xs) (hkN : (kd 1000060).2 = N) (hk5 : 5 * k + 5 ≤ N) (hN : N ≤ 2560) (hH : H ≤ 800000000) (ih : zIH d k N sl kd xs H f Φ) : eb_P mL_law (d + 401) 319 [(4, .int (nI (5 * k))), (3, .ref 137), (2, .ref 112), (1, .ref 0), (0, .ref 1000060)] [] (138, sl, kd, I, L, Rf) Φ := by
  obtain ⟨B0, hB0⟩ := hL.2.2.2
  refine ep_aload_n (i := 1) dL_law_319 rfl rfl ?_
  refine ep_callV (i := 0) (M1 := mX10_brothers) (rest := []) dL_law_320 mlL_41 mvX10_brothers rfl (Nat.le_of_ble_eq_true rfl) (hL.1.F.kc (by decide) rfl) (Nat.le_of_ble_eq_true rfl) rfl (z_clsQ (f := f) hL.2.1 hB0 (c_brothers (d + 340) hL.1 hL.2.2.1 (by omega))) zpXc_ok ?_
  rintro _ _ ⟨rfl, I1, L1, R1, rfl, hC1, hM1, ⟨B1, hB1⟩, hx1⟩
  show eb_P _ _ 323 [(4, .int (nI (5 * k))), (3, .ref 137), (2, .ref 112), (1, .ref 0), (0, .ref 1000060)] [.int ((s_brothers T).1)] (138, sl, kd, I1, L1, R1) _
  replace hx1 : I1 1000060 = xs := hx1.trans hx
  refine ep_aload_n (i := 2) dL_law_323 rfl rfl ?_
  refine ep_callV (i := 112) (M1 := mX11_brothers) (rest := [.int ((s_brothers T).1)]) dL_law_324 mlL_44 mvX11_brothers rfl (Nat.le_of_ble_eq_true rfl) (hC1.F.kc (by decide) rfl) (Nat.le_of_ble_eq_true rfl) rfl (z_refQ (f := f) hC1 hB1 (y_X11_brothers (d + 380) hM1 hL.2.2.1)) zpY_ok ?_
  rintro _ _ ⟨rfl, I2, L2, R2, rfl, hC2, hM2, hB2, h9, hx2⟩
  show eb_P _ _ 327 [(4, .int (nI (5 * k))), (3, .ref 137), (2, .ref 112), (1, .ref 0), (0, .ref 1000060)] [.int ((s_brothers T).1), .int ((s_brothers T).1)] (138, sl, kd, I2, L2, R2) _
  replace hx2 : I2 1000060 = xs := hx2.trans hx1
  refine ep_icmp_eq (tgt := 1563) dL_law_327 (by decide) (fun _ => ?_) (fun h => absurd rfl h)
  exact ih sl I2 L2 R2 _ (Nat.le_add_right _ _) (Nat.le_add_right _ _) ⟨hC2, hM2, (o_brothers hL.2.2.1).le (by omega), hB2⟩ hx2
theorem lc_4 (d : Nat) {k N f H : Nat} {sl : Nat × Nat} {kd : Nat → Nat × Nat} {I : Nat → Nat → Int32} {L : Nat → Nat → Int64} {Rf : Nat → Nat → Option Nat} {T : zT} {xs : Nat → Int32} {Φ : Option Value → eb_S → Prop} (hL : zL 138 kd I L Rf T H (f + 100)) (hx : I 1000060 = xs) (hkN : (kd 1000060).2 = N) (hk5 : 5 * k + 5 ≤ N) (hN : N ≤ 2560) (hH : H ≤ 800000000) (ih : zIH d k N sl kd xs H f Φ) : eb_P mL_law (d + 401) 332 [(4, .int (nI (5 * k))), (3, .ref 137), (2, .ref 112), (1, .ref 0), (0, .ref 1000060)] [] (138, sl, kd, I, L, Rf) Φ := by
  obtain ⟨B0, hB0⟩ := hL.2.2.2
  refine ep_aload_n (i := 1) dL_law_332 rfl rfl ?_
  refine ep_callV (i := 0) (M1 := mX10_winds) (rest := []) dL_law_333 mlL_45 mvX10_winds rfl (Nat.le_of_ble_eq_true rfl) (hL.1.F.kc (by decide) rfl) (Nat.le_of_ble_eq_true rfl) rfl (z_clsQ (f := f) hL.2.1 hB0 (c_winds (d + 340) hL.1 hL.2.2.1 (by omega))) zpXc_ok ?_
  rintro _ _ ⟨rfl, I1, L1, R1, rfl, hC1, hM1, ⟨B1, hB1⟩, hx1⟩
  show eb_P _ _ 336 [(4, .int (nI (5 * k))), (3, .ref 137), (2, .ref 112), (1, .ref 0), (0, .ref 1000060)] [.int ((s_winds T).1)] (138, sl, kd, I1, L1, R1) _
  replace hx1 : I1 1000060 = xs := hx1.trans hx
  refine ep_aload_n (i := 2) dL_law_336 rfl rfl ?_
  refine ep_callV (i := 112) (M1 := mX11_winds) (rest := [.int ((s_winds T).1)]) dL_law_337 mlL_48 mvX11_winds rfl (Nat.le_of_ble_eq_true rfl) (hC1.F.kc (by decide) rfl) (Nat.le_of_ble_eq_true rfl) rfl (z_refQ (f := f) hC1 hB1 (y_X11_winds (d + 380) hM1 hL.2.2.1)) zpY_ok ?_
  rintro _ _ ⟨rfl, I2, L2, R2, rfl, hC2, hM2, hB2, h9, hx2⟩
  show eb_P _ _ 340 [(4, .int (nI (5 * k))), (3, .ref 137), (2, .ref 112), (1, .ref 0), (0, .ref 1000060)] [.int ((s_winds T).1), .int ((s_winds T).1)] (138, sl, kd, I2, L2, R2) _
  replace hx2 : I2 1000060 = xs := hx2.trans hx1
  refine ep_icmp_eq (tgt := 1563) dL_law_340 (by decide) (fun _ => ?_) (fun h => absurd rfl h)
  exact ih sl I2 L2 R2 _ (Nat.le_add_right _ _) (Nat.le_add_right _ _) ⟨hC2, hM2, (o_winds hL.2.2.1).le (by omega), hB2⟩ hx2
theorem lc_5 (d : Nat) {k N f H : Nat} {sl : Nat × Nat} {kd : Nat → Nat × Nat} {I : Nat → Nat → Int32} {L : Nat → Nat → Int64} {Rf : Nat → Nat → Option Nat} {T : zT} {xs : Nat → Int32} {Φ : Option Value → eb_S → Prop} (hL : zL 138 kd I L Rf T H (f + 100)) (hx : I 1000060 = xs) (hkN : (kd 1000060).2 = N) (hk5 : 5 * k + 5 ≤ N) (hN : N ≤ 2560) (hH : H ≤ 800000000) (ih : zIH d k N sl kd xs H f Φ) : eb_P mL_law (d + 401) 345 [(4, .int (nI (5 * k))), (3, .ref 137), (2, .ref 112), (1, .ref 0), (0, .ref 1000060)] [] (138, sl, kd, I, L, Rf) Φ := by
  obtain ⟨B0, hB0⟩ := hL.2.2.2
  refine ep_aload_n (i := 1) dL_law_345 rfl rfl ?_
  refine ep_callV (i := 0) (M1 := mX10_rule) (rest := []) dL_law_346 mlL_49 mvX10_rule rfl (Nat.le_of_ble_eq_true rfl) (hL.1.F.kc (by decide) rfl) (Nat.le_of_ble_eq_true rfl) rfl (z_clsQ (f := f) hL.2.1 hB0 (c_rule (d + 340) hL.1 hL.2.2.1 (by omega))) zpXc_ok ?_
  rintro _ _ ⟨rfl, I1, L1, R1, rfl, hC1, hM1, ⟨B1, hB1⟩, hx1⟩
  show eb_P _ _ 349 [(4, .int (nI (5 * k))), (3, .ref 137), (2, .ref 112), (1, .ref 0), (0, .ref 1000060)] [.int ((s_rule T).1)] (138, sl, kd, I1, L1, R1) _
  replace hx1 : I1 1000060 = xs := hx1.trans hx
  refine ep_aload_n (i := 2) dL_law_349 rfl rfl ?_
  refine ep_callV (i := 112) (M1 := mX11_rule) (rest := [.int ((s_rule T).1)]) dL_law_350 mlL_52 mvX11_rule rfl (Nat.le_of_ble_eq_true rfl) (hC1.F.kc (by decide) rfl) (Nat.le_of_ble_eq_true rfl) rfl (z_refQ (f := f) hC1 hB1 (y_X11_rule (d + 60) hM1 hL.2.2.1)) zpY_ok ?_
  rintro _ _ ⟨rfl, I2, L2, R2, rfl, hC2, hM2, hB2, h9, hx2⟩
  show eb_P _ _ 353 [(4, .int (nI (5 * k))), (3, .ref 137), (2, .ref 112), (1, .ref 0), (0, .ref 1000060)] [.int ((s_rule T).1), .int ((s_rule T).1)] (138, sl, kd, I2, L2, R2) _
  replace hx2 : I2 1000060 = xs := hx2.trans hx1
  refine ep_icmp_eq (tgt := 1563) dL_law_353 (by decide) (fun _ => ?_) (fun h => absurd rfl h)
  exact ih sl I2 L2 R2 _ (Nat.le_add_right _ _) (Nat.le_add_right _ _) ⟨hC2, hM2, (o_rule hL.2.2.1).le (by omega), hB2⟩ hx2
theorem lc_8 (d : Nat) {k N f H : Nat} {sl : Nat × Nat} {kd : Nat → Nat × Nat} {I : Nat → Nat → Int32} {L : Nat → Nat → Int64} {Rf : Nat → Nat → Option Nat} {T : zT} {xs : Nat → Int32} {Φ : Option Value → eb_S → Prop} (hL : zL 138 kd I L Rf T H (f + 100)) (hx : I 1000060 = xs) (hkN : (kd 1000060).2 = N) (hk5 : 5 * k + 5 ≤ N) (hN : N ≤ 2560) (hH : H ≤ 800000000) (ih : zIH d k N sl kd xs H f Φ) : eb_P mL_law (d + 401) 482 [(4, .int (nI (5 * k))), (3, .ref 137), (2, .ref 112), (1, .ref 0), (0, .ref 1000060)] [] (138, sl, kd, I, L, Rf) Φ := by
  obtain ⟨B0, hB0⟩ := hL.2.2.2
  refine ep_aload_n (i := 1) dL_law_482 rfl rfl ?_
  refine ep_aload_n (i := 0) dL_law_483 rfl rfl ?_
  refine ep_iload (i := 4) dL_law_484 rfl ?_
  refine ep_iconst (v := 1) dL_law_486 (by decide) ?_
  refine ep_iadd dL_law_487 ?_
  refine ep_topE (y := nI (5 * k + 1)) (nI_add _ _) ?_
  refine ep_xi dL_law_488 (Or.inr rfl) hkN (vp_in_nI (by omega) (by omega)) ?_
  refine ep_topE (y := xs (5 * k + 1)) (by rw [nI_clamp (by omega)]; exact congrFun hx _) ?_
  refine ep_aload_n (i := 0) dL_law_489 rfl rfl ?_
  refine ep_iload (i := 4) dL_law_490 rfl ?_
  refine ep_iconst (v := 2) dL_law_492 (by decide) ?_
  refine ep_iadd dL_law_493 ?_
  refine ep_topE (y := nI (5 * k + 2)) (nI_add _ _) ?_
  refine ep_xi dL_law_494 (Or.inr rfl) hkN (vp_in_nI (by omega) (by omega)) ?_
  refine ep_topE (y := xs (5 * k + 2)) (by rw [nI_clamp (by omega)]; exact congrFun hx _) ?_
  refine ep_aload_n (i := 0) dL_law_495 rfl rfl ?_
  refine ep_iload (i := 4) dL_law_496 rfl ?_
  refine ep_iconst (v := 3) dL_law_498 (by decide) ?_
  refine ep_iadd dL_law_499 ?_
  refine ep_topE (y := nI (5 * k + 3)) (nI_add _ _) ?_
  refine ep_xi dL_law_500 (Or.inr rfl) hkN (vp_in_nI (by omega) (by omega)) ?_
  refine ep_topE (y := xs (5 * k + 3)) (by rw [nI_clamp (by omega)]; exact congrFun hx _) ?_
  refine ep_aload_n (i := 0) dL_law_501 rfl rfl ?_
  refine ep_iload (i := 4) dL_law_502 rfl ?_
  refine ep_iconst (v := 4) dL_law_504 (by decide) ?_
  refine ep_iadd dL_law_505 ?_
  refine ep_topE (y := nI (5 * k + 4)) (nI_add _ _) ?_
  refine ep_xi dL_law_506 (Or.inr rfl) hkN (vp_in_nI (by omega) (by omega)) ?_
  refine ep_topE (y := xs (5 * k + 4)) (by rw [nI_clamp (by omega)]; exact congrFun hx _) ?_
  refine ep_callV (i := 0) (M1 := mX10_sheet) (rest := []) dL_law_507 mlL_66 mvX10_sheet rfl (Nat.le_of_ble_eq_true rfl) (hL.1.F.kc (by decide) rfl) (Nat.le_of_ble_eq_true rfl) rfl (z_clsQ (f := f) hL.2.1 hB0 (c_sheet (d + 340) hL.1 hL.2.2.1 (by omega) (xs (5 * k + 1)) (xs (5 * k + 2)) (xs (5 * k + 3)) (xs (5 * k + 4)))) zpXc_ok ?_
  rintro _ _ ⟨rfl, I1, L1, R1, rfl, hC1, hM1, ⟨B1, hB1⟩, hx1⟩
  show eb_P _ _ 510 [(4, .int (nI (5 * k))), (3, .ref 137), (2, .ref 112), (1, .ref 0), (0, .ref 1000060)] [.int ((s_sheet T (xs (5 * k + 1)) (xs (5 * k + 2)) (xs (5 * k + 3)) (xs (5 * k + 4))).1)] (138, sl, kd, I1, L1, R1) _
  replace hx1 : I1 1000060 = xs := hx1.trans hx
  refine ep_aload_n (i := 2) dL_law_510 rfl rfl ?_
  refine ep_aload_n (i := 0) dL_law_511 rfl rfl ?_
  refine ep_iload (i := 4) dL_law_512 rfl ?_
  refine ep_iconst (v := 1) dL_law_514 (by decide) ?_
  refine ep_iadd dL_law_515 ?_
  refine ep_topE (y := nI (5 * k + 1)) (nI_add _ _) ?_
  refine ep_xi dL_law_516 (Or.inr rfl) hkN (vp_in_nI (by omega) (by omega)) ?_
  refine ep_topE (y := xs (5 * k + 1)) (by rw [nI_clamp (by omega)]; exact congrFun hx1 _) ?_
  refine ep_aload_n (i := 0) dL_law_517 rfl rfl ?_
  refine ep_iload (i := 4) dL_law_518 rfl ?_
  refine ep_iconst (v := 2) dL_law_520 (by decide) ?_
  refine ep_iadd dL_law_521 ?_
  refine ep_topE (y := nI (5 * k + 2)) (nI_add _ _) ?_
  refine ep_xi dL_law_522 (Or.inr rfl) hkN (vp_in_nI (by omega) (by omega)) ?_
  refine ep_topE (y := xs (5 * k + 2)) (by rw [nI_clamp (by omega)]; exact congrFun hx1 _) ?_
  refine ep_aload_n (i := 0) dL_law_523 rfl rfl ?_
  refine ep_iload (i := 4) dL_law_524 rfl ?_
  refine ep_iconst (v := 3) dL_law_526 (by decide) ?_
  refine ep_iadd dL_law_527 ?_
  refine ep_topE (y := nI (5 * k + 3)) (nI_add _ _) ?_
  refine ep_xi dL_law_528 (Or.inr rfl) hkN (vp_in_nI (by omega) (by omega)) ?_
  refine ep_topE (y := xs (5 * k + 3)) (by rw [nI_clamp (by omega)]; exact congrFun hx1 _) ?_
  refine ep_aload_n (i := 0) dL_law_529 rfl rfl ?_
  refine ep_iload (i := 4) dL_law_530 rfl ?_
  refine ep_iconst (v := 4) dL_law_532 (by decide) ?_
  refine ep_iadd dL_law_533 ?_
  refine ep_topE (y := nI (5 * k + 4)) (nI_add _ _) ?_
  refine ep_xi dL_law_534 (Or.inr rfl) hkN (vp_in_nI (by omega) (by omega)) ?_
  refine ep_topE (y := xs (5 * k + 4)) (by rw [nI_clamp (by omega)]; exact congrFun hx1 _) ?_
  refine ep_callV (i := 112) (M1 := mX11_sheet) (rest := [.int ((s_sheet T (xs (5 * k + 1)) (xs (5 * k + 2)) (xs (5 * k + 3)) (xs (5 * k + 4))).1)]) dL_law_535 mlL_70 mvX11_sheet rfl (Nat.le_of_ble_eq_true rfl) (hC1.F.kc (by decide) rfl) (Nat.le_of_ble_eq_true rfl) rfl (z_refQ (f := f) hC1 hB1 (y_X11_sheet (d + 0) hM1 hL.2.2.1 (by omega) (xs (5 * k + 1)) (xs (5 * k + 2)) (xs (5 * k + 3)) (xs (5 * k + 4)))) zpY_ok ?_
  rintro _ _ ⟨rfl, I2, L2, R2, rfl, hC2, hM2, hB2, h9, hx2⟩
  show eb_P _ _ 538 [(4, .int (nI (5 * k))), (3, .ref 137), (2, .ref 112), (1, .ref 0), (0, .ref 1000060)] [.int ((s_sheet T (xs (5 * k + 1)) (xs (5 * k + 2)) (xs (5 * k + 3)) (xs (5 * k + 4))).1), .int ((s_sheet T (xs (5 * k + 1)) (xs (5 * k + 2)) (xs (5 * k + 3)) (xs (5 * k + 4))).1)] (138, sl, kd, I2, L2, R2) _
  replace hx2 : I2 1000060 = xs := hx2.trans hx1
  refine ep_icmp_eq (tgt := 1563) dL_law_538 (by decide) (fun _ => ?_) (fun h => absurd rfl h)
  exact ih sl I2 L2 R2 _ (Nat.le_add_right _ _) (Nat.le_add_right _ _) ⟨hC2, hM2, (o_sheet hL.2.2.1 (xs (5 * k + 1)) (xs (5 * k + 2)) (xs (5 * k + 3)) (xs (5 * k + 4))).le (by omega), hB2⟩ hx2
theorem lc_9 (d : Nat) {k N f H : Nat} {sl : Nat × Nat} {kd : Nat → Nat × Nat} {I : Nat → Nat → Int32} {L : Nat → Nat → Int64} {Rf : Nat → Nat → Option Nat} {T : zT} {xs : Nat → Int32} {Φ : Option Value → eb_S → Prop} (hL : zL 138 kd I L Rf T H (f + 100)) (hx : I 1000060 = xs) (hkN : (kd 1000060).2 = N) (hk5 : 5 * k + 5 ≤ N) (hN : N ≤ 2560) (hH : H ≤ 800000000) (ih : zIH d k N sl kd xs H f Φ) : eb_P mL_law (d + 401) 543 [(4, .int (nI (5 * k))), (3, .ref 137), (2, .ref 112), (1, .ref 0), (0, .ref 1000060)] [] (138, sl, kd, I, L, Rf) Φ := by
  obtain ⟨B0, hB0⟩ := hL.2.2.2
  refine ep_aload_n (i := 1) dL_law_543 rfl rfl ?_
  refine ep_aload_n (i := 0) dL_law_544 rfl rfl ?_
  refine ep_iload (i := 4) dL_law_545 rfl ?_
  refine ep_iconst (v := 1) dL_law_547 (by decide) ?_
  refine ep_iadd dL_law_548 ?_
  refine ep_topE (y := nI (5 * k + 1)) (nI_add _ _) ?_
  refine ep_xi dL_law_549 (Or.inr rfl) hkN (vp_in_nI (by omega) (by omega)) ?_
  refine ep_topE (y := xs (5 * k + 1)) (by rw [nI_clamp (by omega)]; exact congrFun hx _) ?_
  refine ep_callV (i := 0) (M1 := mX10_hours) (rest := []) dL_law_550 mlL_71 mvX10_hours rfl (Nat.le_of_ble_eq_true rfl) (hL.1.F.kc (by decide) rfl) (Nat.le_of_ble_eq_true rfl) rfl (z_clsF (f := f) hL.2.1 hB0 (c_hours (d + 340) hL.1 hL.2.2.1 (by omega) (xs (5 * k + 1)) f B0)) zpXc_ok ?_
  rintro _ _ ⟨rfl, I1, L1, R1, rfl, hC1, hM1, ⟨B1, hB1⟩, hx1⟩
  show eb_P _ _ 553 [(4, .int (nI (5 * k))), (3, .ref 137), (2, .ref 112), (1, .ref 0), (0, .ref 1000060)] [.int ((s_hours T (xs (5 * k + 1))).1)] (138, sl, kd, I1, L1, R1) _
  replace hx1 : I1 1000060 = xs := hx1.trans hx
  refine ep_aload_n (i := 2) dL_law_553 rfl rfl ?_
  refine ep_aload_n (i := 0) dL_law_554 rfl rfl ?_
  refine ep_iload (i := 4) dL_law_555 rfl ?_
  refine ep_iconst (v := 1) dL_law_557 (by decide) ?_
  refine ep_iadd dL_law_558 ?_
  refine ep_topE (y := nI (5 * k + 1)) (nI_add _ _) ?_
  refine ep_xi dL_law_559 (Or.inr rfl) hkN (vp_in_nI (by omega) (by omega)) ?_
  refine ep_topE (y := xs (5 * k + 1)) (by rw [nI_clamp (by omega)]; exact congrFun hx1 _) ?_
  refine ep_callV (i := 112) (M1 := mX11_hours) (rest := [.int ((s_hours T (xs (5 * k + 1))).1)]) dL_law_560 mlL_74 mvX11_hours rfl (Nat.le_of_ble_eq_true rfl) (hC1.F.kc (by decide) rfl) (Nat.le_of_ble_eq_true rfl) rfl (z_refQ (f := f) hC1 hB1 (y_X11_hours (d + 0) hM1 hL.2.2.1 (by omega) (xs (5 * k + 1)))) zpY_ok ?_
  rintro _ _ ⟨rfl, I2, L2, R2, rfl, hC2, hM2, hB2, h9, hx2⟩
  show eb_P _ _ 563 [(4, .int (nI (5 * k))), (3, .ref 137), (2, .ref 112), (1, .ref 0), (0, .ref 1000060)] [.int ((s_hours T (xs (5 * k + 1))).1), .int ((s_hours T (xs (5 * k + 1))).1)] (138, sl, kd, I2, L2, R2) _
  replace hx2 : I2 1000060 = xs := hx2.trans hx1
  refine ep_icmp_eq (tgt := 1563) dL_law_563 (by decide) (fun _ => ?_) (fun h => absurd rfl h)
  exact ih sl I2 L2 R2 _ (Nat.le_add_right _ _) (Nat.le_add_right _ _) ⟨hC2, hM2, (o_hours hL.2.2.1 (xs (5 * k + 1))).le (by omega), hB2⟩ hx2
theorem lc_10 (d : Nat) {k N f H : Nat} {sl : Nat × Nat} {kd : Nat → Nat × Nat} {I : Nat → Nat → Int32} {L : Nat → Nat → Int64} {Rf : Nat → Nat → Option Nat} {T : zT} {xs : Nat → Int32} {Φ : Option Value → eb_S → Prop} (hL : zL 138 kd I L Rf T H (f + 100)) (hx : I 1000060 = xs) (hkN : (kd 1000060).2 = N) (hk5 : 5 * k + 5 ≤ N) (hN : N ≤ 2560) (hH : H ≤ 800000000) (ih : zIH d k N sl kd xs H f Φ) : eb_P mL_law (d + 401) 568 [(4, .int (nI (5 * k))), (3, .ref 137), (2, .ref 112), (1, .ref 0), (0, .ref 1000060)] [] (138, sl, kd, I, L, Rf) Φ := by
  obtain ⟨B0, hB0⟩ := hL.2.2.2
  refine ep_aload_n (i := 1) dL_law_568 rfl rfl ?_
  refine ep_aload_n (i := 0) dL_law_569 rfl rfl ?_
  refine ep_iload (i := 4) dL_law_570 rfl ?_
  refine ep_iconst (v := 1) dL_law_572 (by decide) ?_
  refine ep_iadd dL_law_573 ?_
  refine ep_topE (y := nI (5 * k + 1)) (nI_add _ _) ?_
  refine ep_xi dL_law_574 (Or.inr rfl) hkN (vp_in_nI (by omega) (by omega)) ?_
  refine ep_topE (y := xs (5 * k + 1)) (by rw [nI_clamp (by omega)]; exact congrFun hx _) ?_
  refine ep_aload_n (i := 0) dL_law_575 rfl rfl ?_
  refine ep_iload (i := 4) dL_law_576 rfl ?_
  refine ep_iconst (v := 2) dL_law_578 (by decide) ?_
  refine ep_iadd dL_law_579 ?_
  refine ep_topE (y := nI (5 * k + 2)) (nI_add _ _) ?_
  refine ep_xi dL_law_580 (Or.inr rfl) hkN (vp_in_nI (by omega) (by omega)) ?_
  refine ep_topE (y := xs (5 * k + 2)) (by rw [nI_clamp (by omega)]; exact congrFun hx _) ?_
  refine ep_callV (i := 0) (M1 := mX10_tells) (rest := []) dL_law_581 mlL_75 mvX10_tells rfl (Nat.le_of_ble_eq_true rfl) (hL.1.F.kc (by decide) rfl) (Nat.le_of_ble_eq_true rfl) rfl (z_clsQ (f := f) hL.2.1 hB0 (c_tells (d + 340) hL.1 hL.2.2.1 (by omega) (xs (5 * k + 1)) (xs (5 * k + 2)))) zpXc_ok ?_
  rintro _ _ ⟨rfl, I1, L1, R1, rfl, hC1, hM1, ⟨B1, hB1⟩, hx1⟩
  show eb_P _ _ 584 [(4, .int (nI (5 * k))), (3, .ref 137), (2, .ref 112), (1, .ref 0), (0, .ref 1000060)] [.int ((s_tells T (xs (5 * k + 1)) (xs (5 * k + 2))).1)] (138, sl, kd, I1, L1, R1) _
  replace hx1 : I1 1000060 = xs := hx1.trans hx
  refine ep_aload_n (i := 2) dL_law_584 rfl rfl ?_
  refine ep_aload_n (i := 0) dL_law_585 rfl rfl ?_
  refine ep_iload (i := 4) dL_law_586 rfl ?_
  refine ep_iconst (v := 1) dL_law_588 (by decide) ?_
  refine ep_iadd dL_law_589 ?_
  refine ep_topE (y := nI (5 * k + 1)) (nI_add _ _) ?_
  refine ep_xi dL_law_590 (Or.inr rfl) hkN (vp_in_nI (by omega) (by omega)) ?_
  refine ep_topE (y := xs (5 * k + 1)) (by rw [nI_clamp (by omega)]; exact congrFun hx1 _) ?_
  refine ep_aload_n (i := 0) dL_law_591 rfl rfl ?_
  refine ep_iload (i := 4) dL_law_592 rfl ?_
  refine ep_iconst (v := 2) dL_law_594 (by decide) ?_
  refine ep_iadd dL_law_595 ?_
  refine ep_topE (y := nI (5 * k + 2)) (nI_add _ _) ?_
  refine ep_xi dL_law_596 (Or.inr rfl) hkN (vp_in_nI (by omega) (by omega)) ?_
  refine ep_topE (y := xs (5 * k + 2)) (by rw [nI_clamp (by omega)]; exact congrFun hx1 _) ?_
  refine ep_callV (i := 112) (M1 := mX11_tells) (rest := [.int ((s_tells T (xs (5 * k + 1)) (xs (5 * k + 2))).1)]) dL_law_597 mlL_78 mvX11_tells rfl (Nat.le_of_ble_eq_true rfl) (hC1.F.kc (by decide) rfl) (Nat.le_of_ble_eq_true rfl) rfl (z_refQ (f := f) hC1 hB1 (y_X11_tells (d + 380) hM1 hL.2.2.1 (xs (5 * k + 1)) (xs (5 * k + 2)))) zpY_ok ?_
  rintro _ _ ⟨rfl, I2, L2, R2, rfl, hC2, hM2, hB2, h9, hx2⟩
  show eb_P _ _ 600 [(4, .int (nI (5 * k))), (3, .ref 137), (2, .ref 112), (1, .ref 0), (0, .ref 1000060)] [.int ((s_tells T (xs (5 * k + 1)) (xs (5 * k + 2))).1), .int ((s_tells T (xs (5 * k + 1)) (xs (5 * k + 2))).1)] (138, sl, kd, I2, L2, R2) _
  replace hx2 : I2 1000060 = xs := hx2.trans hx1
  refine ep_icmp_eq (tgt := 1563) dL_law_600 (by decide) (fun _ => ?_) (fun h => absurd rfl h)
  exact ih sl I2 L2 R2 _ (Nat.le_add_right _ _) (Nat.le_add_right _ _) ⟨hC2, hM2, (o_tells hL.2.2.1 (xs (5 * k + 1)) (xs (5 * k + 2))).le (by omega), hB2⟩ hx2
theorem lc_11 (d : Nat) {k N f H : Nat} {sl : Nat × Nat} {kd : Nat → Nat × Nat} {I : Nat → Nat → Int32} {L : Nat → Nat → Int64} {Rf : Nat → Nat → Option Nat} {T : zT} {xs : Nat → Int32} {Φ : Option Value → eb_S → Prop} (hL : zL 138 kd I L Rf T H (f + 100)) (hx : I 1000060 = xs) (hkN : (kd 1000060).2 = N) (hk5 : 5 * k + 5 ≤ N) (hN : N ≤ 2560) (hH : H ≤ 800000000) (ih : zIH d k N sl kd xs H f Φ) : eb_P mL_law (d + 401) 605 [(4, .int (nI (5 * k))), (3, .ref 137), (2, .ref 112), (1, .ref 0), (0, .ref 1000060)] [] (138, sl, kd, I, L, Rf) Φ := by
  obtain ⟨B0, hB0⟩ := hL.2.2.2
  refine ep_aload_n (i := 1) dL_law_605 rfl rfl ?_
  refine ep_aload_n (i := 0) dL_law_606 rfl rfl ?_
  refine ep_iload (i := 4) dL_law_607 rfl ?_
  refine ep_iconst (v := 1) dL_law_609 (by decide) ?_
  refine ep_iadd dL_law_610 ?_
  refine ep_topE (y := nI (5 * k + 1)) (nI_add _ _) ?_
  refine ep_xi dL_law_611 (Or.inr rfl) hkN (vp_in_nI (by omega) (by omega)) ?_
  refine ep_topE (y := xs (5 * k + 1)) (by rw [nI_clamp (by omega)]; exact congrFun hx _) ?_
  refine ep_aload_n (i := 0) dL_law_612 rfl rfl ?_
  refine ep_iload (i := 4) dL_law_613 rfl ?_
  refine ep_iconst (v := 2) dL_law_615 (by decide) ?_
  refine ep_iadd dL_law_616 ?_
  refine ep_topE (y := nI (5 * k + 2)) (nI_add _ _) ?_
  refine ep_xi dL_law_617 (Or.inr rfl) hkN (vp_in_nI (by omega) (by omega)) ?_
  refine ep_topE (y := xs (5 * k + 2)) (by rw [nI_clamp (by omega)]; exact congrFun hx _) ?_
  refine ep_callV (i := 0) (M1 := mX10_moves) (rest := []) dL_law_618 mlL_79 mvX10_moves rfl (Nat.le_of_ble_eq_true rfl) (hL.1.F.kc (by decide) rfl) (Nat.le_of_ble_eq_true rfl) rfl (z_clsQ (f := f) hL.2.1 hB0 (c_moves (d + 340) hL.1 hL.2.2.1 (by omega) (xs (5 * k + 1)) (xs (5 * k + 2)))) zpXc_ok ?_
  rintro _ _ ⟨rfl, I1, L1, R1, rfl, hC1, hM1, ⟨B1, hB1⟩, hx1⟩
  show eb_P _ _ 621 [(4, .int (nI (5 * k))), (3, .ref 137), (2, .ref 112), (1, .ref 0), (0, .ref 1000060)] [.int ((s_moves T (xs (5 * k + 1)) (xs (5 * k + 2))).1)] (138, sl, kd, I1, L1, R1) _
  replace hx1 : I1 1000060 = xs := hx1.trans hx
  refine ep_aload_n (i := 2) dL_law_621 rfl rfl ?_
  refine ep_aload_n (i := 0) dL_law_622 rfl rfl ?_
  refine ep_iload (i := 4) dL_law_623 rfl ?_
  refine ep_iconst (v := 1) dL_law_625 (by decide) ?_
  refine ep_iadd dL_law_626 ?_
  refine ep_topE (y := nI (5 * k + 1)) (nI_add _ _) ?_
  refine ep_xi dL_law_627 (Or.inr rfl) hkN (vp_in_nI (by omega) (by omega)) ?_
  refine ep_topE (y := xs (5 * k + 1)) (by rw [nI_clamp (by omega)]; exact congrFun hx1 _) ?_
  refine ep_aload_n (i := 0) dL_law_628 rfl rfl ?_
  refine ep_iload (i := 4) dL_law_629 rfl ?_
  refine ep_iconst (v := 2) dL_law_631 (by decide) ?_
  refine ep_iadd dL_law_632 ?_
  refine ep_topE (y := nI (5 * k + 2)) (nI_add _ _) ?_
  refine ep_xi dL_law_633 (Or.inr rfl) hkN (vp_in_nI (by omega) (by omega)) ?_
  refine ep_topE (y := xs (5 * k + 2)) (by rw [nI_clamp (by omega)]; exact congrFun hx1 _) ?_
  refine ep_callV (i := 112) (M1 := mX11_moves) (rest := [.int ((s_moves T (xs (5 * k + 1)) (xs (5 * k + 2))).1)]) dL_law_634 mlL_82 mvX11_moves rfl (Nat.le_of_ble_eq_true rfl) (hC1.F.kc (by decide) rfl) (Nat.le_of_ble_eq_true rfl) rfl (z_refQ (f := f) hC1 hB1 (y_X11_moves (d + 380) hM1 hL.2.2.1 (xs (5 * k + 1)) (xs (5 * k + 2)))) zpY_ok ?_
  rintro _ _ ⟨rfl, I2, L2, R2, rfl, hC2, hM2, hB2, h9, hx2⟩
  show eb_P _ _ 637 [(4, .int (nI (5 * k))), (3, .ref 137), (2, .ref 112), (1, .ref 0), (0, .ref 1000060)] [.int ((s_moves T (xs (5 * k + 1)) (xs (5 * k + 2))).1), .int ((s_moves T (xs (5 * k + 1)) (xs (5 * k + 2))).1)] (138, sl, kd, I2, L2, R2) _
  replace hx2 : I2 1000060 = xs := hx2.trans hx1
  refine ep_icmp_eq (tgt := 1563) dL_law_637 (by decide) (fun _ => ?_) (fun h => absurd rfl h)
  exact ih sl I2 L2 R2 _ (Nat.le_add_right _ _) (Nat.le_add_right _ _) ⟨hC2, hM2, (o_moves hL.2.2.1 (xs (5 * k + 1)) (xs (5 * k + 2))).le (by omega), hB2⟩ hx2
theorem lc_12 (d : Nat) {k N f H : Nat} {sl : Nat × Nat} {kd : Nat → Nat × Nat} {I : Nat → Nat → Int32} {L : Nat → Nat → Int64} {Rf : Nat → Nat → Option Nat} {T : zT} {xs : Nat → Int32} {Φ : Option Value → eb_S → Prop} (hL : zL 138 kd I L Rf T H (f + 100)) (hx : I 1000060 = xs) (hkN : (kd 1000060).2 = N) (hk5 : 5 * k + 5 ≤ N) (hN : N ≤ 2560) (hH : H ≤ 800000000) (ih : zIH d k N sl kd xs H f Φ) : eb_P mL_law (d + 401) 642 [(4, .int (nI (5 * k))), (3, .ref 137), (2, .ref 112), (1, .ref 0), (0, .ref 1000060)] [] (138, sl, kd, I, L, Rf) Φ := by
  obtain ⟨B0, hB0⟩ := hL.2.2.2
  refine ep_aload_n (i := 1) dL_law_642 rfl rfl ?_
  refine ep_aload_n (i := 0) dL_law_643 rfl rfl ?_
  refine ep_iload (i := 4) dL_law_644 rfl ?_
  refine ep_iconst (v := 1) dL_law_646 (by decide) ?_
  refine ep_iadd dL_law_647 ?_
  refine ep_topE (y := nI (5 * k + 1)) (nI_add _ _) ?_
  refine ep_xi dL_law_648 (Or.inr rfl) hkN (vp_in_nI (by omega) (by omega)) ?_
  refine ep_topE (y := xs (5 * k + 1)) (by rw [nI_clamp (by omega)]; exact congrFun hx _) ?_
  refine ep_callV (i := 0) (M1 := mX10_eases) (rest := []) dL_law_649 mlL_83 mvX10_eases rfl (Nat.le_of_ble_eq_true rfl) (hL.1.F.kc (by decide) rfl) (Nat.le_of_ble_eq_true rfl) rfl (z_clsQ (f := f) hL.2.1 hB0 (c_eases (d + 340) hL.1 hL.2.2.1 (by omega) (xs (5 * k + 1)))) zpXc_ok ?_
  rintro _ _ ⟨rfl, I1, L1, R1, rfl, hC1, hM1, ⟨B1, hB1⟩, hx1⟩
  show eb_P _ _ 652 [(4, .int (nI (5 * k))), (3, .ref 137), (2, .ref 112), (1, .ref 0), (0, .ref 1000060)] [.int ((s_eases T (xs (5 * k + 1))).1)] (138, sl, kd, I1, L1, R1) _
  replace hx1 : I1 1000060 = xs := hx1.trans hx
  refine ep_aload_n (i := 2) dL_law_652 rfl rfl ?_
  refine ep_aload_n (i := 0) dL_law_653 rfl rfl ?_
  refine ep_iload (i := 4) dL_law_654 rfl ?_
  refine ep_iconst (v := 1) dL_law_656 (by decide) ?_
  refine ep_iadd dL_law_657 ?_
  refine ep_topE (y := nI (5 * k + 1)) (nI_add _ _) ?_
  refine ep_xi dL_law_658 (Or.inr rfl) hkN (vp_in_nI (by omega) (by omega)) ?_
  refine ep_topE (y := xs (5 * k + 1)) (by rw [nI_clamp (by omega)]; exact congrFun hx1 _) ?_
  refine ep_callV (i := 112) (M1 := mX11_eases) (rest := [.int ((s_eases T (xs (5 * k + 1))).1)]) dL_law_659 mlL_86 mvX11_eases rfl (Nat.le_of_ble_eq_true rfl) (hC1.F.kc (by decide) rfl) (Nat.le_of_ble_eq_true rfl) rfl (z_refQ (f := f) hC1 hB1 (y_X11_eases (d + 380) hM1 hL.2.2.1 (xs (5 * k + 1)))) zpY_ok ?_
  rintro _ _ ⟨rfl, I2, L2, R2, rfl, hC2, hM2, hB2, h9, hx2⟩
  show eb_P _ _ 662 [(4, .int (nI (5 * k))), (3, .ref 137), (2, .ref 112), (1, .ref 0), (0, .ref 1000060)] [.int ((s_eases T (xs (5 * k + 1))).1), .int ((s_eases T (xs (5 * k + 1))).1)] (138, sl, kd, I2, L2, R2) _
  replace hx2 : I2 1000060 = xs := hx2.trans hx1
  refine ep_icmp_eq (tgt := 1563) dL_law_662 (by decide) (fun _ => ?_) (fun h => absurd rfl h)
  exact ih sl I2 L2 R2 _ (Nat.le_add_right _ _) (Nat.le_add_right _ _) ⟨hC2, hM2, (o_eases hL.2.2.1 (xs (5 * k + 1))).le (by omega), hB2⟩ hx2
theorem lc_13 (d : Nat) {k N f H : Nat} {sl : Nat × Nat} {kd : Nat → Nat × Nat} {I : Nat → Nat → Int32} {L : Nat → Nat → Int64} {Rf : Nat → Nat → Option Nat} {T : zT} {xs : Nat → Int32} {Φ : Option Value → eb_S → Prop} (hL : zL 138 kd I L Rf T H (f + 100)) (hx : I 1000060 = xs) (hkN : (kd 1000060).2 = N) (hk5 : 5 * k + 5 ≤ N) (hN : N ≤ 2560) (hH : H ≤ 800000000) (ih : zIH d k N sl kd xs H f Φ) : eb_P mL_law (d + 401) 667 [(4, .int (nI (5 * k))), (3, .ref 137), (2, .ref 112), (1, .ref 0), (0, .ref 1000060)] [] (138, sl, kd, I, L, Rf) Φ := by
  obtain ⟨B0, hB0⟩ := hL.2.2.2
  refine ep_aload_n (i := 1) dL_law_667 rfl rfl ?_
  refine ep_aload_n (i := 0) dL_law_668 rfl rfl ?_
  refine ep_iload (i := 4) dL_law_669 rfl ?_
  refine ep_iconst (v := 1) dL_law_671 (by decide) ?_
  refine ep_iadd dL_law_672 ?_
  refine ep_topE (y := nI (5 * k + 1)) (nI_add _ _) ?_
  refine ep_xi dL_law_673 (Or.inr rfl) hkN (vp_in_nI (by omega) (by omega)) ?_
  refine ep_topE (y := xs (5 * k + 1)) (by rw [nI_clamp (by omega)]; exact congrFun hx _) ?_
  refine ep_aload_n (i := 0) dL_law_674 rfl rfl ?_
  refine ep_iload (i := 4) dL_law_675 rfl ?_
  refine ep_iconst (v := 2) dL_law_677 (by decide) ?_
  refine ep_iadd dL_law_678 ?_
  refine ep_topE (y := nI (5 * k + 2)) (nI_add _ _) ?_
  refine ep_xi dL_law_679 (Or.inr rfl) hkN (vp_in_nI (by omega) (by omega)) ?_
  refine ep_topE (y := xs (5 * k + 2)) (by rw [nI_clamp (by omega)]; exact congrFun hx _) ?_
  refine ep_callV (i := 0) (M1 := mX10_preaches) (rest := []) dL_law_680 mlL_87 mvX10_preaches rfl (Nat.le_of_ble_eq_true rfl) (hL.1.F.kc (by decide) rfl) (Nat.le_of_ble_eq_true rfl) rfl (z_clsQ (f := f) hL.2.1 hB0 (c_preaches (d + 340) hL.1 hL.2.2.1 (by omega) (xs (5 * k + 1)) (xs (5 * k + 2)))) zpXc_ok ?_
  rintro _ _ ⟨rfl, I1, L1, R1, rfl, hC1, hM1, ⟨B1, hB1⟩, hx1⟩
  show eb_P _ _ 683 [(4, .int (nI (5 * k))), (3, .ref 137), (2, .ref 112), (1, .ref 0), (0, .ref 1000060)] [.int ((s_preaches T (xs (5 * k + 1)) (xs (5 * k + 2))).1)] (138, sl, kd, I1, L1, R1) _
  replace hx1 : I1 1000060 = xs := hx1.trans hx
  refine ep_aload_n (i := 2) dL_law_683 rfl rfl ?_
  refine ep_aload_n (i := 0) dL_law_684 rfl rfl ?_
  refine ep_iload (i := 4) dL_law_685 rfl ?_
  refine ep_iconst (v := 1) dL_law_687 (by decide) ?_
  refine ep_iadd dL_law_688 ?_
  refine ep_topE (y := nI (5 * k + 1)) (nI_add _ _) ?_
  refine ep_xi dL_law_689 (Or.inr rfl) hkN (vp_in_nI (by omega) (by omega)) ?_
  refine ep_topE (y := xs (5 * k + 1)) (by rw [nI_clamp (by omega)]; exact congrFun hx1 _) ?_
  refine ep_aload_n (i := 0) dL_law_690 rfl rfl ?_
  refine ep_iload (i := 4) dL_law_691 rfl ?_
  refine ep_iconst (v := 2) dL_law_693 (by decide) ?_
  refine ep_iadd dL_law_694 ?_
  refine ep_topE (y := nI (5 * k + 2)) (nI_add _ _) ?_
  refine ep_xi dL_law_695 (Or.inr rfl) hkN (vp_in_nI (by omega) (by omega)) ?_
  refine ep_topE (y := xs (5 * k + 2)) (by rw [nI_clamp (by omega)]; exact congrFun hx1 _) ?_
  refine ep_callV (i := 112) (M1 := mX11_preaches) (rest := [.int ((s_preaches T (xs (5 * k + 1)) (xs (5 * k + 2))).1)]) dL_law_696 mlL_90 mvX11_preaches rfl (Nat.le_of_ble_eq_true rfl) (hC1.F.kc (by decide) rfl) (Nat.le_of_ble_eq_true rfl) rfl (z_refQ (f := f) hC1 hB1 (y_X11_preaches (d + 380) hM1 hL.2.2.1 (xs (5 * k + 1)) (xs (5 * k + 2)))) zpY_ok ?_
  rintro _ _ ⟨rfl, I2, L2, R2, rfl, hC2, hM2, hB2, h9, hx2⟩
  show eb_P _ _ 699 [(4, .int (nI (5 * k))), (3, .ref 137), (2, .ref 112), (1, .ref 0), (0, .ref 1000060)] [.int ((s_preaches T (xs (5 * k + 1)) (xs (5 * k + 2))).1), .int ((s_preaches T (xs (5 * k + 1)) (xs (5 * k + 2))).1)] (138, sl, kd, I2, L2, R2) _
  replace hx2 : I2 1000060 = xs := hx2.trans hx1
  refine ep_icmp_eq (tgt := 1563) dL_law_699 (by decide) (fun _ => ?_) (fun h => absurd rfl h)
  exact ih sl I2 L2 R2 _ (Nat.le_add_right _ _) (Nat.le_add_right _ _) ⟨hC2, hM2, (o_preaches hL.2.2.1 (xs (5 * k + 1)) (xs (5 * k + 2))).le (by omega), hB2⟩ hx2
theorem lc_14 (d : Nat) {k N f H : Nat} {sl : Nat × Nat} {kd : Nat → Nat × Nat} {I : Nat → Nat → Int32} {L : Nat → Nat → Int64} {Rf : Nat → Nat → Option Nat} {T : zT} {xs : Nat → Int32} {Φ : Option Value → eb_S → Prop} (hL : zL 138 kd I L Rf T H (f + 100)) (hx : I 1000060 = xs) (hkN : (kd 1000060).2 = N) (hk5 : 5 * k + 5 ≤ N) (hN : N ≤ 2560) (hH : H ≤ 800000000) (ih : zIH d k N sl kd xs H f Φ) : eb_P mL_law (d + 401) 704 [(4, .int (nI (5 * k))), (3, .ref 137), (2, .ref 112), (1, .ref 0), (0, .ref 1000060)] [] (138, sl, kd, I, L, Rf) Φ := by
  obtain ⟨B0, hB0⟩ := hL.2.2.2
  refine ep_aload_n (i := 1) dL_law_704 rfl rfl ?_
  refine ep_aload_n (i := 0) dL_law_705 rfl rfl ?_
  refine ep_iload (i := 4) dL_law_706 rfl ?_
  refine ep_iconst (v := 1) dL_law_708 (by decide) ?_
  refine ep_iadd dL_law_709 ?_
  refine ep_topE (y := nI (5 * k + 1)) (nI_add _ _) ?_
  refine ep_xi dL_law_710 (Or.inr rfl) hkN (vp_in_nI (by omega) (by omega)) ?_
  refine ep_topE (y := xs (5 * k + 1)) (by rw [nI_clamp (by omega)]; exact congrFun hx _) ?_
  refine ep_callV (i := 0) (M1 := mX10_sails) (rest := []) dL_law_711 mlL_91 mvX10_sails rfl (Nat.le_of_ble_eq_true rfl) (hL.1.F.kc (by decide) rfl) (Nat.le_of_ble_eq_true rfl) rfl (z_clsQ (f := f) hL.2.1 hB0 (c_sails (d + 340) hL.1 hL.2.2.1 (by omega) (xs (5 * k + 1)))) zpXc_ok ?_
  rintro _ _ ⟨rfl, I1, L1, R1, rfl, hC1, hM1, ⟨B1, hB1⟩, hx1⟩
  show eb_P _ _ 714 [(4, .int (nI (5 * k))), (3, .ref 137), (2, .ref 112), (1, .ref 0), (0, .ref 1000060)] [.int ((s_sails T (xs (5 * k + 1))).1)] (138, sl, kd, I1, L1, R1) _
  replace hx1 : I1 1000060 = xs := hx1.trans hx
  refine ep_aload_n (i := 2) dL_law_714 rfl rfl ?_
  refine ep_aload_n (i := 0) dL_law_715 rfl rfl ?_
  refine ep_iload (i := 4) dL_law_716 rfl ?_
  refine ep_iconst (v := 1) dL_law_718 (by decide) ?_
  refine ep_iadd dL_law_719 ?_
  refine ep_topE (y := nI (5 * k + 1)) (nI_add _ _) ?_
  refine ep_xi dL_law_720 (Or.inr rfl) hkN (vp_in_nI (by omega) (by omega)) ?_
  refine ep_topE (y := xs (5 * k + 1)) (by rw [nI_clamp (by omega)]; exact congrFun hx1 _) ?_
  refine ep_callV (i := 112) (M1 := mX11_sails) (rest := [.int ((s_sails T (xs (5 * k + 1))).1)]) dL_law_721 mlL_94 mvX11_sails rfl (Nat.le_of_ble_eq_true rfl) (hC1.F.kc (by decide) rfl) (Nat.le_of_ble_eq_true rfl) rfl (z_refQ (f := f) hC1 hB1 (y_X11_sails (d + 380) hM1 hL.2.2.1 (xs (5 * k + 1)))) zpY_ok ?_
  rintro _ _ ⟨rfl, I2, L2, R2, rfl, hC2, hM2, hB2, h9, hx2⟩
  show eb_P _ _ 724 [(4, .int (nI (5 * k))), (3, .ref 137), (2, .ref 112), (1, .ref 0), (0, .ref 1000060)] [.int ((s_sails T (xs (5 * k + 1))).1), .int ((s_sails T (xs (5 * k + 1))).1)] (138, sl, kd, I2, L2, R2) _
  replace hx2 : I2 1000060 = xs := hx2.trans hx1
  refine ep_icmp_eq (tgt := 1563) dL_law_724 (by decide) (fun _ => ?_) (fun h => absurd rfl h)
  exact ih sl I2 L2 R2 _ (Nat.le_add_right _ _) (Nat.le_add_right _ _) ⟨hC2, hM2, (o_sails hL.2.2.1 (xs (5 * k + 1))).le (by omega), hB2⟩ hx2
theorem lc_15 (d : Nat) {k N f H : Nat} {sl : Nat × Nat} {kd : Nat → Nat × Nat} {I : Nat → Nat → Int32} {L : Nat → Nat → Int64} {Rf : Nat → Nat → Option Nat} {T : zT} {xs : Nat → Int32} {Φ : Option Value → eb_S → Prop} (hL : zL 138 kd I L Rf T H (f + 100)) (hx : I 1000060 = xs) (hkN : (kd 1000060).2 = N) (hk5 : 5 * k + 5 ≤ N) (hN : N ≤ 2560) (hH : H ≤ 800000000) (ih : zIH d k N sl kd xs H f Φ) : eb_P mL_law (d + 401) 729 [(4, .int (nI (5 * k))), (3, .ref 137), (2, .ref 112), (1, .ref 0), (0, .ref 1000060)] [] (138, sl, kd, I, L, Rf) Φ := by
  obtain ⟨B0, hB0⟩ := hL.2.2.2
  refine ep_aload_n (i := 1) dL_law_729 rfl rfl ?_
  refine ep_callV (i := 0) (M1 := mX10_watch) (rest := []) dL_law_730 mlL_95 mvX10_watch rfl (Nat.le_of_ble_eq_true rfl) (hL.1.F.kc (by decide) rfl) (Nat.le_of_ble_eq_true rfl) rfl (z_clsF (f := f) hL.2.1 hB0 (c_watch (d + 340) hL.1 hL.2.2.1 (by omega) f B0)) zpXc_ok ?_
  rintro _ _ ⟨rfl, I1, L1, R1, rfl, hC1, hM1, ⟨B1, hB1⟩, hx1⟩
  show eb_P _ _ 733 [(4, .int (nI (5 * k))), (3, .ref 137), (2, .ref 112), (1, .ref 0), (0, .ref 1000060)] [.int ((s_watch T).1)] (138, sl, kd, I1, L1, R1) _
  replace hx1 : I1 1000060 = xs := hx1.trans hx
  refine ep_aload_n (i := 2) dL_law_733 rfl rfl ?_
  refine ep_callV (i := 112) (M1 := mX11_watch) (rest := [.int ((s_watch T).1)]) dL_law_734 mlL_98 mvX11_watch rfl (Nat.le_of_ble_eq_true rfl) (hC1.F.kc (by decide) rfl) (Nat.le_of_ble_eq_true rfl) rfl (z_refQ (f := f) hC1 hB1 (y_X11_watch (d + 0) hM1 hL.2.2.1 (by omega))) zpY_ok ?_
  rintro _ _ ⟨rfl, I2, L2, R2, rfl, hC2, hM2, hB2, h9, hx2⟩
  show eb_P _ _ 737 [(4, .int (nI (5 * k))), (3, .ref 137), (2, .ref 112), (1, .ref 0), (0, .ref 1000060)] [.int ((s_watch T).1), .int ((s_watch T).1)] (138, sl, kd, I2, L2, R2) _
  replace hx2 : I2 1000060 = xs := hx2.trans hx1
  refine ep_icmp_eq (tgt := 1563) dL_law_737 (by decide) (fun _ => ?_) (fun h => absurd rfl h)
  exact ih sl I2 L2 R2 _ (Nat.le_add_right _ _) (Nat.le_add_right _ _) ⟨hC2, hM2, (o_watch hL.2.2.1).le (by omega), hB2⟩ hx2
theorem lc_16 (d : Nat) {k N f H : Nat} {sl : Nat × Nat} {kd : Nat → Nat × Nat} {I : Nat → Nat → Int32} {L : Nat → Nat → Int64} {Rf : Nat → Nat → Option Nat} {T : zT} {xs : Nat → Int32} {Φ : Option Value → eb_S → Prop} (hL : zL 138 kd I L Rf T H (f + 100)) (hx : I 1000060 = xs) (hkN : (kd 1000060).2 = N) (hk5 : 5 * k + 5 ≤ N) (hN : N ≤ 2560) (hH : H ≤ 800000000) (ih : zIH d k N sl kd xs H f Φ) : eb_P mL_law (d + 401) 742 [(4, .int (nI (5 * k))), (3, .ref 137), (2, .ref 112), (1, .ref 0), (0, .ref 1000060)] [] (138, sl, kd, I, L, Rf) Φ := by
  obtain ⟨B0, hB0⟩ := hL.2.2.2
  refine ep_aload_n (i := 1) dL_law_742 rfl rfl ?_
  refine ep_callV (i := 0) (M1 := mX10_undo) (rest := []) dL_law_743 mlL_99 mvX10_undo rfl (Nat.le_of_ble_eq_true rfl) (hL.1.F.kc (by decide) rfl) (Nat.le_of_ble_eq_true rfl) rfl (z_clsQ (f := f) hL.2.1 hB0 (c_undo (d + 340) hL.1 hL.2.2.1 (by omega))) zpXc_ok ?_
  rintro _ _ ⟨rfl, I1, L1, R1, rfl, hC1, hM1, ⟨B1, hB1⟩, hx1⟩
  show eb_P _ _ 746 [(4, .int (nI (5 * k))), (3, .ref 137), (2, .ref 112), (1, .ref 0), (0, .ref 1000060)] [.int ((s_undo T).1)] (138, sl, kd, I1, L1, R1) _
  replace hx1 : I1 1000060 = xs := hx1.trans hx
  refine ep_aload_n (i := 2) dL_law_746 rfl rfl ?_
  refine ep_callV (i := 112) (M1 := mX11_undo) (rest := [.int ((s_undo T).1)]) dL_law_747 mlL_102 mvX11_undo rfl (Nat.le_of_ble_eq_true rfl) (hC1.F.kc (by decide) rfl) (Nat.le_of_ble_eq_true rfl) rfl (z_refQ (f := f) hC1 hB1 (y_X11_undo (d + 380) hM1 hL.2.2.1)) zpY_ok ?_
  rintro _ _ ⟨rfl, I2, L2, R2, rfl, hC2, hM2, hB2, h9, hx2⟩
  show eb_P _ _ 750 [(4, .int (nI (5 * k))), (3, .ref 137), (2, .ref 112), (1, .ref 0), (0, .ref 1000060)] [.int ((s_undo T).1), .int ((s_undo T).1)] (138, sl, kd, I2, L2, R2) _
  replace hx2 : I2 1000060 = xs := hx2.trans hx1
  refine ep_icmp_eq (tgt := 1563) dL_law_750 (by decide) (fun _ => ?_) (fun h => absurd rfl h)
  exact ih sl I2 L2 R2 _ (Nat.le_add_right _ _) (Nat.le_add_right _ _) ⟨hC2, hM2, (o_undo hL.2.2.1).le (by omega), hB2⟩ hx2
theorem lc_17 (d : Nat) {k N f H : Nat} {sl : Nat × Nat} {kd : Nat → Nat × Nat} {I : Nat → Nat → Int32} {L : Nat → Nat → Int64} {Rf : Nat → Nat → Option Nat} {T : zT} {xs : Nat → Int32} {Φ : Option Value → eb_S → Prop} (hL : zL 138 kd I L Rf T H (f + 100)) (hx : I 1000060 = xs) (hkN : (kd 1000060).2 = N) (hk5 : 5 * k + 5 ≤ N) (hN : N ≤ 2560) (hH : H ≤ 800000000) (ih : zIH d k N sl kd xs H f Φ) : eb_P mL_law (d + 401) 755 [(4, .int (nI (5 * k))), (3, .ref 137), (2, .ref 112), (1, .ref 0), (0, .ref 1000060)] [] (138, sl, kd, I, L, Rf) Φ := by
  obtain ⟨B0, hB0⟩ := hL.2.2.2
  refine ep_aload_n (i := 1) dL_law_755 rfl rfl ?_
  refine ep_callV (i := 0) (M1 := mX10_moment) (rest := []) dL_law_756 mlL_103 mvX10_moment rfl (Nat.le_of_ble_eq_true rfl) (hL.1.F.kc (by decide) rfl) (Nat.le_of_ble_eq_true rfl) rfl (z_clsQ (f := f) hL.2.1 hB0 (c_moment (d + 340) hL.1 hL.2.2.1 (by omega))) zpXc_ok ?_
  rintro _ _ ⟨rfl, I1, L1, R1, rfl, hC1, hM1, ⟨B1, hB1⟩, hx1⟩
  show eb_P _ _ 759 [(4, .int (nI (5 * k))), (3, .ref 137), (2, .ref 112), (1, .ref 0), (0, .ref 1000060)] [.int ((s_moment T).1)] (138, sl, kd, I1, L1, R1) _
  replace hx1 : I1 1000060 = xs := hx1.trans hx
  refine ep_aload_n (i := 2) dL_law_759 rfl rfl ?_
  refine ep_callV (i := 112) (M1 := mX11_moment) (rest := [.int ((s_moment T).1)]) dL_law_760 mlL_106 mvX11_moment rfl (Nat.le_of_ble_eq_true rfl) (hC1.F.kc (by decide) rfl) (Nat.le_of_ble_eq_true rfl) rfl (z_refQ (f := f) hC1 hB1 (y_X11_moment (d + 0) hM1 hL.2.2.1 (by omega))) zpY_ok ?_
  rintro _ _ ⟨rfl, I2, L2, R2, rfl, hC2, hM2, hB2, h9, hx2⟩
  show eb_P _ _ 763 [(4, .int (nI (5 * k))), (3, .ref 137), (2, .ref 112), (1, .ref 0), (0, .ref 1000060)] [.int ((s_moment T).1), .int ((s_moment T).1)] (138, sl, kd, I2, L2, R2) _
  replace hx2 : I2 1000060 = xs := hx2.trans hx1
  refine ep_icmp_eq (tgt := 1563) dL_law_763 (by decide) (fun _ => ?_) (fun h => absurd rfl h)
  exact ih sl I2 L2 R2 _ (Nat.le_add_right _ _) (Nat.le_add_right _ _) ⟨hC2, hM2, (o_moment hL.2.2.1).le (by omega), hB2⟩ hx2
theorem lc_18 (d : Nat) {k N f H : Nat} {sl : Nat × Nat} {kd : Nat → Nat × Nat} {I : Nat → Nat → Int32} {L : Nat → Nat → Int64} {Rf : Nat → Nat → Option Nat} {T : zT} {xs : Nat → Int32} {Φ : Option Value → eb_S → Prop} (hL : zL 138 kd I L Rf T H (f + 100)) (hx : I 1000060 = xs) (hkN : (kd 1000060).2 = N) (hk5 : 5 * k + 5 ≤ N) (hN : N ≤ 2560) (hH : H ≤ 800000000) (ih : zIH d k N sl kd xs H f Φ) : eb_P mL_law (d + 401) 768 [(4, .int (nI (5 * k))), (3, .ref 137), (2, .ref 112), (1, .ref 0), (0, .ref 1000060)] [] (138, sl, kd, I, L, Rf) Φ := by
  obtain ⟨B0, hB0⟩ := hL.2.2.2
  refine ep_aload_n (i := 1) dL_law_768 rfl rfl ?_
  refine ep_aload_n (i := 0) dL_law_769 rfl rfl ?_
  refine ep_iload (i := 4) dL_law_770 rfl ?_
  refine ep_iconst (v := 1) dL_law_772 (by decide) ?_
  refine ep_iadd dL_law_773 ?_
  refine ep_topE (y := nI (5 * k + 1)) (nI_add _ _) ?_
  refine ep_xi dL_law_774 (Or.inr rfl) hkN (vp_in_nI (by omega) (by omega)) ?_
  refine ep_topE (y := xs (5 * k + 1)) (by rw [nI_clamp (by omega)]; exact congrFun hx _) ?_
  refine ep_callV (i := 0) (M1 := mX10_later) (rest := []) dL_law_775 mlL_107 mvX10_later rfl (Nat.le_of_ble_eq_true rfl) (hL.1.F.kc (by decide) rfl) (Nat.le_of_ble_eq_true rfl) rfl (z_clsF (f := f) hL.2.1 hB0 (c_later (d + 340) hL.1 hL.2.2.1 (by omega) (xs (5 * k + 1)) f B0)) zpXc_ok ?_
  rintro _ _ ⟨rfl, I1, L1, R1, rfl, hC1, hM1, ⟨B1, hB1⟩, hx1⟩
  show eb_P _ _ 778 [(4, .int (nI (5 * k))), (3, .ref 137), (2, .ref 112), (1, .ref 0), (0, .ref 1000060)] [.int ((s_later T (xs (5 * k + 1))).1)] (138, sl, kd, I1, L1, R1) _
  replace hx1 : I1 1000060 = xs := hx1.trans hx
  refine ep_aload_n (i := 2) dL_law_778 rfl rfl ?_
  refine ep_aload_n (i := 0) dL_law_779 rfl rfl ?_
  refine ep_iload (i := 4) dL_law_780 rfl ?_
  refine ep_iconst (v := 1) dL_law_782 (by decide) ?_
  refine ep_iadd dL_law_783 ?_
  refine ep_topE (y := nI (5 * k + 1)) (nI_add _ _) ?_
  refine ep_xi dL_law_784 (Or.inr rfl) hkN (vp_in_nI (by omega) (by omega)) ?_
  refine ep_topE (y := xs (5 * k + 1)) (by rw [nI_clamp (by omega)]; exact congrFun hx1 _) ?_
  refine ep_callV (i := 112) (M1 := mX11_later) (rest := [.int ((s_later T (xs (5 * k + 1))).1)]) dL_law_785 mlL_110 mvX11_later rfl (Nat.le_of_ble_eq_true rfl) (hC1.F.kc (by decide) rfl) (Nat.le_of_ble_eq_true rfl) rfl (z_refQ (f := f) hC1 hB1 (y_X11_later (d + 0) hM1 hL.2.2.1 (by omega) (xs (5 * k + 1)))) zpY_ok ?_
  rintro _ _ ⟨rfl, I2, L2, R2, rfl, hC2, hM2, hB2, h9, hx2⟩
  show eb_P _ _ 788 [(4, .int (nI (5 * k))), (3, .ref 137), (2, .ref 112), (1, .ref 0), (0, .ref 1000060)] [.int ((s_later T (xs (5 * k + 1))).1), .int ((s_later T (xs (5 * k + 1))).1)] (138, sl, kd, I2, L2, R2) _
  replace hx2 : I2 1000060 = xs := hx2.trans hx1
  refine ep_icmp_eq (tgt := 1563) dL_law_788 (by decide) (fun _ => ?_) (fun h => absurd rfl h)
  exact ih sl I2 L2 R2 _ (Nat.le_add_right _ _) (Nat.le_add_right _ _) ⟨hC2, hM2, (o_later hL.2.2.1 (xs (5 * k + 1))).le (by omega), hB2⟩ hx2
theorem lc_19 (d : Nat) {k N f H : Nat} {sl : Nat × Nat} {kd : Nat → Nat × Nat} {I : Nat → Nat → Int32} {L : Nat → Nat → Int64} {Rf : Nat → Nat → Option Nat} {T : zT} {xs : Nat → Int32} {Φ : Option Value → eb_S → Prop} (hL : zL 138 kd I L Rf T H (f + 100)) (hx : I 1000060 = xs) (hkN : (kd 1000060).2 = N) (hk5 : 5 * k + 5 ≤ N) (hN : N ≤ 2560) (hH : H ≤ 800000000) (ih : zIH d k N sl kd xs H f Φ) : eb_P mL_law (d + 401) 793 [(4, .int (nI (5 * k))), (3, .ref 137), (2, .ref 112), (1, .ref 0), (0, .ref 1000060)] [] (138, sl, kd, I, L, Rf) Φ := by
  obtain ⟨B0, hB0⟩ := hL.2.2.2
  refine ep_aload_n (i := 1) dL_law_793 rfl rfl ?_
  refine ep_callV (i := 0) (M1 := mX10_over) (rest := []) dL_law_794 mlL_111 mvX10_over rfl (Nat.le_of_ble_eq_true rfl) (hL.1.F.kc (by decide) rfl) (Nat.le_of_ble_eq_true rfl) rfl (z_clsF (f := f) hL.2.1 hB0 (c_over (d + 340) hL.1 hL.2.2.1 (by omega) f B0)) zpXc_ok ?_
  rintro _ _ ⟨rfl, I1, L1, R1, rfl, hC1, hM1, ⟨B1, hB1⟩, hx1⟩
  show eb_P _ _ 797 [(4, .int (nI (5 * k))), (3, .ref 137), (2, .ref 112), (1, .ref 0), (0, .ref 1000060)] [.int ((s_over T).1)] (138, sl, kd, I1, L1, R1) _
  replace hx1 : I1 1000060 = xs := hx1.trans hx
  refine ep_aload_n (i := 2) dL_law_797 rfl rfl ?_
  refine ep_callV (i := 112) (M1 := mX11_over) (rest := [.int ((s_over T).1)]) dL_law_798 mlL_114 mvX11_over rfl (Nat.le_of_ble_eq_true rfl) (hC1.F.kc (by decide) rfl) (Nat.le_of_ble_eq_true rfl) rfl (z_refQ (f := f) hC1 hB1 (y_X11_over (d + 0) hM1 hL.2.2.1 (by omega))) zpY_ok ?_
  rintro _ _ ⟨rfl, I2, L2, R2, rfl, hC2, hM2, hB2, h9, hx2⟩
  show eb_P _ _ 801 [(4, .int (nI (5 * k))), (3, .ref 137), (2, .ref 112), (1, .ref 0), (0, .ref 1000060)] [.int ((s_over T).1), .int ((s_over T).1)] (138, sl, kd, I2, L2, R2) _
  replace hx2 : I2 1000060 = xs := hx2.trans hx1
  refine ep_icmp_eq (tgt := 1563) dL_law_801 (by decide) (fun _ => ?_) (fun h => absurd rfl h)
  exact ih sl I2 L2 R2 _ (Nat.le_add_right _ _) (Nat.le_add_right _ _) ⟨hC2, hM2, (o_over hL.2.2.1).le (by omega), hB2⟩ hx2
theorem lc_20 (d : Nat) {k N f H : Nat} {sl : Nat × Nat} {kd : Nat → Nat × Nat} {I : Nat → Nat → Int32} {L : Nat → Nat → Int64} {Rf : Nat → Nat → Option Nat} {T : zT} {xs : Nat → Int32} {Φ : Option Value → eb_S → Prop} (hL : zL 138 kd I L Rf T H (f + 100)) (hx : I 1000060 = xs) (hkN : (kd 1000060).2 = N) (hk5 : 5 * k + 5 ≤ N) (hN : N ≤ 2560) (hH : H ≤ 800000000) (ih : zIH d k N sl kd xs H f Φ) : eb_P mL_law (d + 401) 806 [(4, .int (nI (5 * k))), (3, .ref 137), (2, .ref 112), (1, .ref 0), (0, .ref 1000060)] [] (138, sl, kd, I, L, Rf) Φ := by
  obtain ⟨B0, hB0⟩ := hL.2.2.2
  refine ep_aload_n (i := 1) dL_law_806 rfl rfl ?_
  refine ep_aload_n (i := 0) dL_law_807 rfl rfl ?_
  refine ep_iload (i := 4) dL_law_808 rfl ?_
  refine ep_iconst (v := 1) dL_law_810 (by decide) ?_
  refine ep_iadd dL_law_811 ?_
  refine ep_topE (y := nI (5 * k + 1)) (nI_add _ _) ?_
  refine ep_xi dL_law_812 (Or.inr rfl) hkN (vp_in_nI (by omega) (by omega)) ?_
  refine ep_topE (y := xs (5 * k + 1)) (by rw [nI_clamp (by omega)]; exact congrFun hx _) ?_
  refine ep_callV (i := 0) (M1 := mX10_when) (rest := []) dL_law_813 mlL_115 mvX10_when rfl (Nat.le_of_ble_eq_true rfl) (hL.1.F.kc (by decide) rfl) (Nat.le_of_ble_eq_true rfl) rfl (z_clsF (f := f) hL.2.1 hB0 (c_when (d + 340) hL.1 hL.2.2.1 (by omega) (xs (5 * k + 1)) f B0)) zpXc_ok ?_
  rintro _ _ ⟨rfl, I1, L1, R1, rfl, hC1, hM1, ⟨B1, hB1⟩, hx1⟩
  show eb_P _ _ 816 [(4, .int (nI (5 * k))), (3, .ref 137), (2, .ref 112), (1, .ref 0), (0, .ref 1000060)] [.int ((s_when T (xs (5 * k + 1))).1)] (138, sl, kd, I1, L1, R1) _
  replace hx1 : I1 1000060 = xs := hx1.trans hx
  refine ep_aload_n (i := 2) dL_law_816 rfl rfl ?_
  refine ep_aload_n (i := 0) dL_law_817 rfl rfl ?_
  refine ep_iload (i := 4) dL_law_818 rfl ?_
  refine ep_iconst (v := 1) dL_law_820 (by decide) ?_
  refine ep_iadd dL_law_821 ?_
  refine ep_topE (y := nI (5 * k + 1)) (nI_add _ _) ?_
  refine ep_xi dL_law_822 (Or.inr rfl) hkN (vp_in_nI (by omega) (by omega)) ?_
  refine ep_topE (y := xs (5 * k + 1)) (by rw [nI_clamp (by omega)]; exact congrFun hx1 _) ?_
  refine ep_callV (i := 112) (M1 := mX11_when) (rest := [.int ((s_when T (xs (5 * k + 1))).1)]) dL_law_823 mlL_118 mvX11_when rfl (Nat.le_of_ble_eq_true rfl) (hC1.F.kc (by decide) rfl) (Nat.le_of_ble_eq_true rfl) rfl (z_refQ (f := f) hC1 hB1 (y_X11_when (d + 0) hM1 hL.2.2.1 (by omega) (xs (5 * k + 1)))) zpY_ok ?_
  rintro _ _ ⟨rfl, I2, L2, R2, rfl, hC2, hM2, hB2, h9, hx2⟩
  show eb_P _ _ 826 [(4, .int (nI (5 * k))), (3, .ref 137), (2, .ref 112), (1, .ref 0), (0, .ref 1000060)] [.int ((s_when T (xs (5 * k + 1))).1), .int ((s_when T (xs (5 * k + 1))).1)] (138, sl, kd, I2, L2, R2) _
  replace hx2 : I2 1000060 = xs := hx2.trans hx1
  refine ep_icmp_eq (tgt := 1563) dL_law_826 (by decide) (fun _ => ?_) (fun h => absurd rfl h)
  exact ih sl I2 L2 R2 _ (Nat.le_add_right _ _) (Nat.le_add_right _ _) ⟨hC2, hM2, (o_when hL.2.2.1 (xs (5 * k + 1))).le (by omega), hB2⟩ hx2
theorem lc_21 (d : Nat) {k N f H : Nat} {sl : Nat × Nat} {kd : Nat → Nat × Nat} {I : Nat → Nat → Int32} {L : Nat → Nat → Int64} {Rf : Nat → Nat → Option Nat} {T : zT} {xs : Nat → Int32} {Φ : Option Value → eb_S → Prop} (hL : zL 138 kd I L Rf T H (f + 100)) (hx : I 1000060 = xs) (hkN : (kd 1000060).2 = N) (hk5 : 5 * k + 5 ≤ N) (hN : N ≤ 2560) (hH : H ≤ 800000000) (ih : zIH d k N sl kd xs H f Φ) : eb_P mL_law (d + 401) 831 [(4, .int (nI (5 * k))), (3, .ref 137), (2, .ref 112), (1, .ref 0), (0, .ref 1000060)] [] (138, sl, kd, I, L, Rf) Φ := by
  obtain ⟨B0, hB0⟩ := hL.2.2.2
  refine ep_aload_n (i := 1) dL_law_831 rfl rfl ?_
  refine ep_aload_n (i := 0) dL_law_832 rfl rfl ?_
  refine ep_iload (i := 4) dL_law_833 rfl ?_
  refine ep_iconst (v := 1) dL_law_835 (by decide) ?_
  refine ep_iadd dL_law_836 ?_
  refine ep_topE (y := nI (5 * k + 1)) (nI_add _ _) ?_
  refine ep_xi dL_law_837 (Or.inr rfl) hkN (vp_in_nI (by omega) (by omega)) ?_
  refine ep_topE (y := xs (5 * k + 1)) (by rw [nI_clamp (by omega)]; exact congrFun hx _) ?_
  refine ep_callV (i := 0) (M1 := mX10_rolls) (rest := []) dL_law_838 mlL_119 mvX10_rolls rfl (Nat.le_of_ble_eq_true rfl) (hL.1.F.kc (by decide) rfl) (Nat.le_of_ble_eq_true rfl) rfl (z_clsF (f := f) hL.2.1 hB0 (c_rolls (d + 340) hL.1 hL.2.2.1 (by omega) (xs (5 * k + 1)) f B0)) zpXc_ok ?_
  rintro _ _ ⟨rfl, I1, L1, R1, rfl, hC1, hM1, ⟨B1, hB1⟩, hx1⟩
  show eb_P _ _ 841 [(4, .int (nI (5 * k))), (3, .ref 137), (2, .ref 112), (1, .ref 0), (0, .ref 1000060)] [.int ((s_rolls T (xs (5 * k + 1))).1)] (138, sl, kd, I1, L1, R1) _
  replace hx1 : I1 1000060 = xs := hx1.trans hx
  refine ep_aload_n (i := 2) dL_law_841 rfl rfl ?_
  refine ep_aload_n (i := 0) dL_law_842 rfl rfl ?_
  refine ep_iload (i := 4) dL_law_843 rfl ?_
  refine ep_iconst (v := 1) dL_law_845 (by decide) ?_
  refine ep_iadd dL_law_846 ?_
  refine ep_topE (y := nI (5 * k + 1)) (nI_add _ _) ?_
  refine ep_xi dL_law_847 (Or.inr rfl) hkN (vp_in_nI (by omega) (by omega)) ?_
  refine ep_topE (y := xs (5 * k + 1)) (by rw [nI_clamp (by omega)]; exact congrFun hx1 _) ?_
  refine ep_callV (i := 112) (M1 := mX11_rolls) (rest := [.int ((s_rolls T (xs (5 * k + 1))).1)]) dL_law_848 mlL_122 mvX11_rolls rfl (Nat.le_of_ble_eq_true rfl) (hC1.F.kc (by decide) rfl) (Nat.le_of_ble_eq_true rfl) rfl (z_refQ (f := f) hC1 hB1 (y_X11_rolls (d + 0) hM1 hL.2.2.1 (by omega) (xs (5 * k + 1)))) zpY_ok ?_
  rintro _ _ ⟨rfl, I2, L2, R2, rfl, hC2, hM2, hB2, h9, hx2⟩
  show eb_P _ _ 851 [(4, .int (nI (5 * k))), (3, .ref 137), (2, .ref 112), (1, .ref 0), (0, .ref 1000060)] [.int ((s_rolls T (xs (5 * k + 1))).1), .int ((s_rolls T (xs (5 * k + 1))).1)] (138, sl, kd, I2, L2, R2) _
  replace hx2 : I2 1000060 = xs := hx2.trans hx1
  refine ep_icmp_eq (tgt := 1563) dL_law_851 (by decide) (fun _ => ?_) (fun h => absurd rfl h)
  exact ih sl I2 L2 R2 _ (Nat.le_add_right _ _) (Nat.le_add_right _ _) ⟨hC2, hM2, (o_rolls hL.2.2.1 (xs (5 * k + 1))).le (by omega), hB2⟩ hx2
theorem lc_22 (d : Nat) {k N f H : Nat} {sl : Nat × Nat} {kd : Nat → Nat × Nat} {I : Nat → Nat → Int32} {L : Nat → Nat → Int64} {Rf : Nat → Nat → Option Nat} {T : zT} {xs : Nat → Int32} {Φ : Option Value → eb_S → Prop} (hL : zL 138 kd I L Rf T H (f + 100)) (hx : I 1000060 = xs) (hkN : (kd 1000060).2 = N) (hk5 : 5 * k + 5 ≤ N) (hN : N ≤ 2560) (hH : H ≤ 800000000) (ih : zIH d k N sl kd xs H f Φ) : eb_P mL_law (d + 401) 856 [(4, .int (nI (5 * k))), (3, .ref 137), (2, .ref 112), (1, .ref 0), (0, .ref 1000060)] [] (138, sl, kd, I, L, Rf) Φ := by
  obtain ⟨B0, hB0⟩ := hL.2.2.2
  refine ep_aload_n (i := 1) dL_law_856 rfl rfl ?_
  refine ep_aload_n (i := 0) dL_law_857 rfl rfl ?_
  refine ep_iload (i := 4) dL_law_858 rfl ?_
  refine ep_iconst (v := 1) dL_law_860 (by decide) ?_
  refine ep_iadd dL_law_861 ?_
  refine ep_topE (y := nI (5 * k + 1)) (nI_add _ _) ?_
  refine ep_xi dL_law_862 (Or.inr rfl) hkN (vp_in_nI (by omega) (by omega)) ?_
  refine ep_topE (y := xs (5 * k + 1)) (by rw [nI_clamp (by omega)]; exact congrFun hx _) ?_
  refine ep_aload_n (i := 0) dL_law_863 rfl rfl ?_
  refine ep_iload (i := 4) dL_law_864 rfl ?_
  refine ep_iconst (v := 2) dL_law_866 (by decide) ?_
  refine ep_iadd dL_law_867 ?_
  refine ep_topE (y := nI (5 * k + 2)) (nI_add _ _) ?_
  refine ep_xi dL_law_868 (Or.inr rfl) hkN (vp_in_nI (by omega) (by omega)) ?_
  refine ep_topE (y := xs (5 * k + 2)) (by rw [nI_clamp (by omega)]; exact congrFun hx _) ?_
  refine ep_callV (i := 0) (M1 := mX10_steady) (rest := []) dL_law_869 mlL_123 mvX10_steady rfl (Nat.le_of_ble_eq_true rfl) (hL.1.F.kc (by decide) rfl) (Nat.le_of_ble_eq_true rfl) rfl (z_clsF (f := f) hL.2.1 hB0 (c_steady (d + 340) hL.1 hL.2.2.1 (by omega) (xs (5 * k + 1)) (xs (5 * k + 2)) f B0)) zpXc_ok ?_
  rintro _ _ ⟨rfl, I1, L1, R1, rfl, hC1, hM1, ⟨B1, hB1⟩, hx1⟩
  show eb_P _ _ 872 [(4, .int (nI (5 * k))), (3, .ref 137), (2, .ref 112), (1, .ref 0), (0, .ref 1000060)] [.int ((s_steady T (xs (5 * k + 1)) (xs (5 * k + 2))).1)] (138, sl, kd, I1, L1, R1) _
  replace hx1 : I1 1000060 = xs := hx1.trans hx
  refine ep_aload_n (i := 2) dL_law_872 rfl rfl ?_
  refine ep_aload_n (i := 0) dL_law_873 rfl rfl ?_
  refine ep_iload (i := 4) dL_law_874 rfl ?_
  refine ep_iconst (v := 1) dL_law_876 (by decide) ?_
  refine ep_iadd dL_law_877 ?_
  refine ep_topE (y := nI (5 * k + 1)) (nI_add _ _) ?_
  refine ep_xi dL_law_878 (Or.inr rfl) hkN (vp_in_nI (by omega) (by omega)) ?_
  refine ep_topE (y := xs (5 * k + 1)) (by rw [nI_clamp (by omega)]; exact congrFun hx1 _) ?_
  refine ep_aload_n (i := 0) dL_law_879 rfl rfl ?_
  refine ep_iload (i := 4) dL_law_880 rfl ?_
  refine ep_iconst (v := 2) dL_law_882 (by decide) ?_
  refine ep_iadd dL_law_883 ?_
  refine ep_topE (y := nI (5 * k + 2)) (nI_add _ _) ?_
  refine ep_xi dL_law_884 (Or.inr rfl) hkN (vp_in_nI (by omega) (by omega)) ?_
  refine ep_topE (y := xs (5 * k + 2)) (by rw [nI_clamp (by omega)]; exact congrFun hx1 _) ?_
  refine ep_callV (i := 112) (M1 := mX11_steady) (rest := [.int ((s_steady T (xs (5 * k + 1)) (xs (5 * k + 2))).1)]) dL_law_885 mlL_126 mvX11_steady rfl (Nat.le_of_ble_eq_true rfl) (hC1.F.kc (by decide) rfl) (Nat.le_of_ble_eq_true rfl) rfl (z_refQ (f := f) hC1 hB1 (y_X11_steady (d + 0) hM1 hL.2.2.1 (by omega) (xs (5 * k + 1)) (xs (5 * k + 2)))) zpY_ok ?_
  rintro _ _ ⟨rfl, I2, L2, R2, rfl, hC2, hM2, hB2, h9, hx2⟩
  show eb_P _ _ 888 [(4, .int (nI (5 * k))), (3, .ref 137), (2, .ref 112), (1, .ref 0), (0, .ref 1000060)] [.int ((s_steady T (xs (5 * k + 1)) (xs (5 * k + 2))).1), .int ((s_steady T (xs (5 * k + 1)) (xs (5 * k + 2))).1)] (138, sl, kd, I2, L2, R2) _
  replace hx2 : I2 1000060 = xs := hx2.trans hx1
  refine ep_icmp_eq (tgt := 1563) dL_law_888 (by decide) (fun _ => ?_) (fun h => absurd rfl h)
  exact ih sl I2 L2 R2 _ (Nat.le_add_right _ _) (Nat.le_add_right _ _) ⟨hC2, hM2, (o_steady hL.2.2.1 (xs (5 * k + 1)) (xs (5 * k + 2))).le (by omega), hB2⟩ hx2
theorem lc_23 (d : Nat) {k N f H : Nat} {sl : Nat × Nat} {kd : Nat → Nat × Nat} {I : Nat → Nat → Int32} {L : Nat → Nat → Int64} {Rf : Nat → Nat → Option Nat} {T : zT} {xs : Nat → Int32} {Φ : Option Value → eb_S → Prop} (hL : zL 138 kd I L Rf T H (f + 100)) (hx : I 1000060 = xs) (hkN : (kd 1000060).2 = N) (hk5 : 5 * k + 5 ≤ N) (hN : N ≤ 2560) (hH : H ≤ 800000000) (ih : zIH d k N sl kd xs H f Φ) : eb_P mL_law (d + 401) 893 [(4, .int (nI (5 * k))), (3, .ref 137), (2, .ref 112), (1, .ref 0), (0, .ref 1000060)] [] (138, sl, kd, I, L, Rf) Φ := by
  obtain ⟨B0, hB0⟩ := hL.2.2.2
  refine ep_aload_n (i := 1) dL_law_893 rfl rfl ?_
  refine ep_aload_n (i := 0) dL_law_894 rfl rfl ?_
  refine ep_iload (i := 4) dL_law_895 rfl ?_
  refine ep_iconst (v := 1) dL_law_897 (by decide) ?_
  refine ep_iadd dL_law_898 ?_
  refine ep_topE (y := nI (5 * k + 1)) (nI_add _ _) ?_
  refine ep_xi dL_law_899 (Or.inr rfl) hkN (vp_in_nI (by omega) (by omega)) ?_
  refine ep_topE (y := xs (5 * k + 1)) (by rw [nI_clamp (by omega)]; exact congrFun hx _) ?_
  refine ep_callV (i := 0) (M1 := mX10_makes) (rest := []) dL_law_900 mlL_127 mvX10_makes rfl (Nat.le_of_ble_eq_true rfl) (hL.1.F.kc (by decide) rfl) (Nat.le_of_ble_eq_true rfl) rfl (z_clsF (f := f) hL.2.1 hB0 (c_makes (d + 340) hL.1 hL.2.2.1 (by omega) (xs (5 * k + 1)) f B0)) zpXc_ok ?_
  rintro _ _ ⟨rfl, I1, L1, R1, rfl, hC1, hM1, ⟨B1, hB1⟩, hx1⟩
  show eb_P _ _ 903 [(4, .int (nI (5 * k))), (3, .ref 137), (2, .ref 112), (1, .ref 0), (0, .ref 1000060)] [.int ((s_makes T (xs (5 * k + 1))).1)] (138, sl, kd, I1, L1, R1) _
  replace hx1 : I1 1000060 = xs := hx1.trans hx
  refine ep_aload_n (i := 2) dL_law_903 rfl rfl ?_
  refine ep_aload_n (i := 0) dL_law_904 rfl rfl ?_
  refine ep_iload (i := 4) dL_law_905 rfl ?_
  refine ep_iconst (v := 1) dL_law_907 (by decide) ?_
  refine ep_iadd dL_law_908 ?_
  refine ep_topE (y := nI (5 * k + 1)) (nI_add _ _) ?_
  refine ep_xi dL_law_909 (Or.inr rfl) hkN (vp_in_nI (by omega) (by omega)) ?_
  refine ep_topE (y := xs (5 * k + 1)) (by rw [nI_clamp (by omega)]; exact congrFun hx1 _) ?_
  refine ep_callV (i := 112) (M1 := mX11_makes) (rest := [.int ((s_makes T (xs (5 * k + 1))).1)]) dL_law_910 mlL_130 mvX11_makes rfl (Nat.le_of_ble_eq_true rfl) (hC1.F.kc (by decide) rfl) (Nat.le_of_ble_eq_true rfl) rfl (z_refQ (f := f) hC1 hB1 (y_X11_makes (d + 0) hM1 hL.2.2.1 (by omega) (xs (5 * k + 1)))) zpY_ok ?_
  rintro _ _ ⟨rfl, I2, L2, R2, rfl, hC2, hM2, hB2, h9, hx2⟩
  show eb_P _ _ 913 [(4, .int (nI (5 * k))), (3, .ref 137), (2, .ref 112), (1, .ref 0), (0, .ref 1000060)] [.int ((s_makes T (xs (5 * k + 1))).1), .int ((s_makes T (xs (5 * k + 1))).1)] (138, sl, kd, I2, L2, R2) _
  replace hx2 : I2 1000060 = xs := hx2.trans hx1
  refine ep_icmp_eq (tgt := 1563) dL_law_913 (by decide) (fun _ => ?_) (fun h => absurd rfl h)
  exact ih sl I2 L2 R2 _ (Nat.le_add_right _ _) (Nat.le_add_right _ _) ⟨hC2, hM2, (o_makes hL.2.2.1 (xs (5 * k + 1))).le (by omega), hB2⟩ hx2
theorem lc_24 (d : Nat) {k N f H : Nat} {sl : Nat × Nat} {kd : Nat → Nat × Nat} {I : Nat → Nat → Int32} {L : Nat → Nat → Int64} {Rf : Nat → Nat → Option Nat} {T : zT} {xs : Nat → Int32} {Φ : Option Value → eb_S → Prop} (hL : zL 138 kd I L Rf T H (f + 100)) (hx : I 1000060 = xs) (hkN : (kd 1000060).2 = N) (hk5 : 5 * k + 5 ≤ N) (hN : N ≤ 2560) (hH : H ≤ 800000000) (ih : zIH d k N sl kd xs H f Φ) : eb_P mL_law (d + 401) 918 [(4, .int (nI (5 * k))), (3, .ref 137), (2, .ref 112), (1, .ref 0), (0, .ref 1000060)] [] (138, sl, kd, I, L, Rf) Φ := by
  obtain ⟨B0, hB0⟩ := hL.2.2.2
  refine ep_aload_n (i := 1) dL_law_918 rfl rfl ?_
  refine ep_aload_n (i := 0) dL_law_919 rfl rfl ?_
  refine ep_iload (i := 4) dL_law_920 rfl ?_
  refine ep_iconst (v := 1) dL_law_922 (by decide) ?_
  refine ep_iadd dL_law_923 ?_
  refine ep_topE (y := nI (5 * k + 1)) (nI_add _ _) ?_
  refine ep_xi dL_law_924 (Or.inr rfl) hkN (vp_in_nI (by omega) (by omega)) ?_
  refine ep_topE (y := xs (5 * k + 1)) (by rw [nI_clamp (by omega)]; exact congrFun hx _) ?_
  refine ep_callV (i := 0) (M1 := mX10_steps) (rest := []) dL_law_925 mlL_131 mvX10_steps rfl (Nat.le_of_ble_eq_true rfl) (hL.1.F.kc (by decide) rfl) (Nat.le_of_ble_eq_true rfl) rfl (z_clsF (f := f) hL.2.1 hB0 (c_steps (d + 340) hL.1 hL.2.2.1 (by omega) (xs (5 * k + 1)) f B0)) zpXc_ok ?_
  rintro _ _ ⟨rfl, I1, L1, R1, rfl, hC1, hM1, ⟨B1, hB1⟩, hx1⟩
  show eb_P _ _ 928 [(4, .int (nI (5 * k))), (3, .ref 137), (2, .ref 112), (1, .ref 0), (0, .ref 1000060)] [.int ((s_steps T (xs (5 * k + 1))).1)] (138, sl, kd, I1, L1, R1) _
  replace hx1 : I1 1000060 = xs := hx1.trans hx
  refine ep_aload_n (i := 2) dL_law_928 rfl rfl ?_
  refine ep_aload_n (i := 0) dL_law_929 rfl rfl ?_
  refine ep_iload (i := 4) dL_law_930 rfl ?_
  refine ep_iconst (v := 1) dL_law_932 (by decide) ?_
  refine ep_iadd dL_law_933 ?_
  refine ep_topE (y := nI (5 * k + 1)) (nI_add _ _) ?_
  refine ep_xi dL_law_934 (Or.inr rfl) hkN (vp_in_nI (by omega) (by omega)) ?_
  refine ep_topE (y := xs (5 * k + 1)) (by rw [nI_clamp (by omega)]; exact congrFun hx1 _) ?_
  refine ep_callV (i := 112) (M1 := mX11_steps) (rest := [.int ((s_steps T (xs (5 * k + 1))).1)]) dL_law_935 mlL_134 mvX11_steps rfl (Nat.le_of_ble_eq_true rfl) (hC1.F.kc (by decide) rfl) (Nat.le_of_ble_eq_true rfl) rfl (z_refQ (f := f) hC1 hB1 (y_X11_steps (d + 0) hM1 hL.2.2.1 (by omega) (xs (5 * k + 1)))) zpY_ok ?_
  rintro _ _ ⟨rfl, I2, L2, R2, rfl, hC2, hM2, hB2, h9, hx2⟩
  show eb_P _ _ 938 [(4, .int (nI (5 * k))), (3, .ref 137), (2, .ref 112), (1, .ref 0), (0, .ref 1000060)] [.int ((s_steps T (xs (5 * k + 1))).1), .int ((s_steps T (xs (5 * k + 1))).1)] (138, sl, kd, I2, L2, R2) _
  replace hx2 : I2 1000060 = xs := hx2.trans hx1
  refine ep_icmp_eq (tgt := 1563) dL_law_938 (by decide) (fun _ => ?_) (fun h => absurd rfl h)
  exact ih sl I2 L2 R2 _ (Nat.le_add_right _ _) (Nat.le_add_right _ _) ⟨hC2, hM2, (o_steps hL.2.2.1 (xs (5 * k + 1))).le (by omega), hB2⟩ hx2
theorem lc_25 (d : Nat) {k N f H : Nat} {sl : Nat × Nat} {kd : Nat → Nat × Nat} {I : Nat → Nat → Int32} {L : Nat → Nat → Int64} {Rf : Nat → Nat → Option Nat} {T : zT} {xs : Nat → Int32} {Φ : Option Value → eb_S → Prop} (hL : zL 138 kd I L Rf T H (f + 100)) (hx : I 1000060 = xs) (hkN : (kd 1000060).2 = N) (hk5 : 5 * k + 5 ≤ N) (hN : N ≤ 2560) (hH : H ≤ 800000000) (ih : zIH d k N sl kd xs H f Φ) : eb_P mL_law (d + 401) 943 [(4, .int (nI (5 * k))), (3, .ref 137), (2, .ref 112), (1, .ref 0), (0, .ref 1000060)] [] (138, sl, kd, I, L, Rf) Φ := by
  obtain ⟨B0, hB0⟩ := hL.2.2.2
  refine ep_aload_n (i := 1) dL_law_943 rfl rfl ?_
  refine ep_aload_n (i := 0) dL_law_944 rfl rfl ?_
  refine ep_iload (i := 4) dL_law_945 rfl ?_
  refine ep_iconst (v := 1) dL_law_947 (by decide) ?_
  refine ep_iadd dL_law_948 ?_
  refine ep_topE (y := nI (5 * k + 1)) (nI_add _ _) ?_
  refine ep_xi dL_law_949 (Or.inr rfl) hkN (vp_in_nI (by omega) (by omega)) ?_
  refine ep_topE (y := xs (5 * k + 1)) (by rw [nI_clamp (by omega)]; exact congrFun hx _) ?_
  refine ep_callV (i := 0) (M1 := mX10_best) (rest := []) dL_law_950 mlL_135 mvX10_best rfl (Nat.le_of_ble_eq_true rfl) (hL.1.F.kc (by decide) rfl) (Nat.le_of_ble_eq_true rfl) rfl (z_clsF (f := f) hL.2.1 hB0 (c_best (d + 340) hL.1 hL.2.2.1 (by omega) (xs (5 * k + 1)) f B0)) zpXc_ok ?_
  rintro _ _ ⟨rfl, I1, L1, R1, rfl, hC1, hM1, ⟨B1, hB1⟩, hx1⟩
  show eb_P _ _ 953 [(4, .int (nI (5 * k))), (3, .ref 137), (2, .ref 112), (1, .ref 0), (0, .ref 1000060)] [.int ((s_best T (xs (5 * k + 1))).1)] (138, sl, kd, I1, L1, R1) _
  replace hx1 : I1 1000060 = xs := hx1.trans hx
  refine ep_aload_n (i := 2) dL_law_953 rfl rfl ?_
  refine ep_aload_n (i := 0) dL_law_954 rfl rfl ?_
  refine ep_iload (i := 4) dL_law_955 rfl ?_
  refine ep_iconst (v := 1) dL_law_957 (by decide) ?_
  refine ep_iadd dL_law_958 ?_
  refine ep_topE (y := nI (5 * k + 1)) (nI_add _ _) ?_
  refine ep_xi dL_law_959 (Or.inr rfl) hkN (vp_in_nI (by omega) (by omega)) ?_
  refine ep_topE (y := xs (5 * k + 1)) (by rw [nI_clamp (by omega)]; exact congrFun hx1 _) ?_
  refine ep_callV (i := 112) (M1 := mX11_best) (rest := [.int ((s_best T (xs (5 * k + 1))).1)]) dL_law_960 mlL_138 mvX11_best rfl (Nat.le_of_ble_eq_true rfl) (hC1.F.kc (by decide) rfl) (Nat.le_of_ble_eq_true rfl) rfl (z_refQ (f := f) hC1 hB1 (y_X11_best (d + 0) hM1 hL.2.2.1 (by omega) (xs (5 * k + 1)))) zpY_ok ?_
  rintro _ _ ⟨rfl, I2, L2, R2, rfl, hC2, hM2, hB2, h9, hx2⟩
  show eb_P _ _ 963 [(4, .int (nI (5 * k))), (3, .ref 137), (2, .ref 112), (1, .ref 0), (0, .ref 1000060)] [.int ((s_best T (xs (5 * k + 1))).1), .int ((s_best T (xs (5 * k + 1))).1)] (138, sl, kd, I2, L2, R2) _
  replace hx2 : I2 1000060 = xs := hx2.trans hx1
  refine ep_icmp_eq (tgt := 1563) dL_law_963 (by decide) (fun _ => ?_) (fun h => absurd rfl h)
  exact ih sl I2 L2 R2 _ (Nat.le_add_right _ _) (Nat.le_add_right _ _) ⟨hC2, hM2, (o_best hL.2.2.1 (xs (5 * k + 1))).le (by omega), hB2⟩ hx2
theorem lc_26 (d : Nat) {k N f H : Nat} {sl : Nat × Nat} {kd : Nat → Nat × Nat} {I : Nat → Nat → Int32} {L : Nat → Nat → Int64} {Rf : Nat → Nat → Option Nat} {T : zT} {xs : Nat → Int32} {Φ : Option Value → eb_S → Prop} (hL : zL 138 kd I L Rf T H (f + 100)) (hx : I 1000060 = xs) (hkN : (kd 1000060).2 = N) (hk5 : 5 * k + 5 ≤ N) (hN : N ≤ 2560) (hH : H ≤ 800000000) (ih : zIH d k N sl kd xs H f Φ) : eb_P mL_law (d + 401) 968 [(4, .int (nI (5 * k))), (3, .ref 137), (2, .ref 112), (1, .ref 0), (0, .ref 1000060)] [] (138, sl, kd, I, L, Rf) Φ := by
  obtain ⟨B0, hB0⟩ := hL.2.2.2
  refine ep_aload_n (i := 1) dL_law_968 rfl rfl ?_
  refine ep_aload_n (i := 0) dL_law_969 rfl rfl ?_
  refine ep_iload (i := 4) dL_law_970 rfl ?_
  refine ep_iconst (v := 1) dL_law_972 (by decide) ?_
  refine ep_iadd dL_law_973 ?_
  refine ep_topE (y := nI (5 * k + 1)) (nI_add _ _) ?_
  refine ep_xi dL_law_974 (Or.inr rfl) hkN (vp_in_nI (by omega) (by omega)) ?_
  refine ep_topE (y := xs (5 * k + 1)) (by rw [nI_clamp (by omega)]; exact congrFun hx _) ?_
  refine ep_callV (i := 0) (M1 := mX10_trims) (rest := []) dL_law_975 mlL_139 mvX10_trims rfl (Nat.le_of_ble_eq_true rfl) (hL.1.F.kc (by decide) rfl) (Nat.le_of_ble_eq_true rfl) rfl (z_clsF (f := f) hL.2.1 hB0 (c_trims (d + 340) hL.1 hL.2.2.1 (by omega) (xs (5 * k + 1)) f B0)) zpXc_ok ?_
  rintro _ _ ⟨rfl, I1, L1, R1, rfl, hC1, hM1, ⟨B1, hB1⟩, hx1⟩
  show eb_P _ _ 978 [(4, .int (nI (5 * k))), (3, .ref 137), (2, .ref 112), (1, .ref 0), (0, .ref 1000060)] [.int ((s_trims T (xs (5 * k + 1))).1)] (138, sl, kd, I1, L1, R1) _
  replace hx1 : I1 1000060 = xs := hx1.trans hx
  refine ep_aload_n (i := 2) dL_law_978 rfl rfl ?_
  refine ep_aload_n (i := 0) dL_law_979 rfl rfl ?_
  refine ep_iload (i := 4) dL_law_980 rfl ?_
  refine ep_iconst (v := 1) dL_law_982 (by decide) ?_
  refine ep_iadd dL_law_983 ?_
  refine ep_topE (y := nI (5 * k + 1)) (nI_add _ _) ?_
  refine ep_xi dL_law_984 (Or.inr rfl) hkN (vp_in_nI (by omega) (by omega)) ?_
  refine ep_topE (y := xs (5 * k + 1)) (by rw [nI_clamp (by omega)]; exact congrFun hx1 _) ?_
  refine ep_callV (i := 112) (M1 := mX11_trims) (rest := [.int ((s_trims T (xs (5 * k + 1))).1)]) dL_law_985 mlL_142 mvX11_trims rfl (Nat.le_of_ble_eq_true rfl) (hC1.F.kc (by decide) rfl) (Nat.le_of_ble_eq_true rfl) rfl (z_refQ (f := f) hC1 hB1 (y_X11_trims (d + 0) hM1 hL.2.2.1 (by omega) (xs (5 * k + 1)))) zpY_ok ?_
  rintro _ _ ⟨rfl, I2, L2, R2, rfl, hC2, hM2, hB2, h9, hx2⟩
  show eb_P _ _ 988 [(4, .int (nI (5 * k))), (3, .ref 137), (2, .ref 112), (1, .ref 0), (0, .ref 1000060)] [.int ((s_trims T (xs (5 * k + 1))).1), .int ((s_trims T (xs (5 * k + 1))).1)] (138, sl, kd, I2, L2, R2) _
  replace hx2 : I2 1000060 = xs := hx2.trans hx1
  refine ep_icmp_eq (tgt := 1563) dL_law_988 (by decide) (fun _ => ?_) (fun h => absurd rfl h)
  exact ih sl I2 L2 R2 _ (Nat.le_add_right _ _) (Nat.le_add_right _ _) ⟨hC2, hM2, (o_trims hL.2.2.1 (xs (5 * k + 1))).le (by omega), hB2⟩ hx2
theorem lc_27 (d : Nat) {k N f H : Nat} {sl : Nat × Nat} {kd : Nat → Nat × Nat} {I : Nat → Nat → Int32} {L : Nat → Nat → Int64} {Rf : Nat → Nat → Option Nat} {T : zT} {xs : Nat → Int32} {Φ : Option Value → eb_S → Prop} (hL : zL 138 kd I L Rf T H (f + 100)) (hx : I 1000060 = xs) (hkN : (kd 1000060).2 = N) (hk5 : 5 * k + 5 ≤ N) (hN : N ≤ 2560) (hH : H ≤ 800000000) (ih : zIH d k N sl kd xs H f Φ) : eb_P mL_law (d + 401) 993 [(4, .int (nI (5 * k))), (3, .ref 137), (2, .ref 112), (1, .ref 0), (0, .ref 1000060)] [] (138, sl, kd, I, L, Rf) Φ := by
  obtain ⟨B0, hB0⟩ := hL.2.2.2
  refine ep_aload_n (i := 1) dL_law_993 rfl rfl ?_
  refine ep_callV (i := 0) (M1 := mX10_frees) (rest := []) dL_law_994 mlL_143 mvX10_frees rfl (Nat.le_of_ble_eq_true rfl) (hL.1.F.kc (by decide) rfl) (Nat.le_of_ble_eq_true rfl) rfl (z_clsQ (f := f) hL.2.1 hB0 (c_frees (d + 340) hL.1 hL.2.2.1 (by omega))) zpXc_ok ?_
  rintro _ _ ⟨rfl, I1, L1, R1, rfl, hC1, hM1, ⟨B1, hB1⟩, hx1⟩
  show eb_P _ _ 997 [(4, .int (nI (5 * k))), (3, .ref 137), (2, .ref 112), (1, .ref 0), (0, .ref 1000060)] [.int ((s_frees T).1)] (138, sl, kd, I1, L1, R1) _
  replace hx1 : I1 1000060 = xs := hx1.trans hx
  refine ep_aload_n (i := 2) dL_law_997 rfl rfl ?_
  refine ep_callV (i := 112) (M1 := mX11_frees) (rest := [.int ((s_frees T).1)]) dL_law_998 mlL_146 mvX11_frees rfl (Nat.le_of_ble_eq_true rfl) (hC1.F.kc (by decide) rfl) (Nat.le_of_ble_eq_true rfl) rfl (z_refQ (f := f) hC1 hB1 (y_X11_frees (d + 0) hM1 hL.2.2.1 (by omega))) zpY_ok ?_
  rintro _ _ ⟨rfl, I2, L2, R2, rfl, hC2, hM2, hB2, h9, hx2⟩
  show eb_P _ _ 1001 [(4, .int (nI (5 * k))), (3, .ref 137), (2, .ref 112), (1, .ref 0), (0, .ref 1000060)] [.int ((s_frees T).1), .int ((s_frees T).1)] (138, sl, kd, I2, L2, R2) _
  replace hx2 : I2 1000060 = xs := hx2.trans hx1
  refine ep_icmp_eq (tgt := 1563) dL_law_1001 (by decide) (fun _ => ?_) (fun h => absurd rfl h)
  exact ih sl I2 L2 R2 _ (Nat.le_add_right _ _) (Nat.le_add_right _ _) ⟨hC2, hM2, (o_frees hL.2.2.1).le (by omega), hB2⟩ hx2
theorem lc_28 (d : Nat) {k N f H : Nat} {sl : Nat × Nat} {kd : Nat → Nat × Nat} {I : Nat → Nat → Int32} {L : Nat → Nat → Int64} {Rf : Nat → Nat → Option Nat} {T : zT} {xs : Nat → Int32} {Φ : Option Value → eb_S → Prop} (hL : zL 138 kd I L Rf T H (f + 100)) (hx : I 1000060 = xs) (hkN : (kd 1000060).2 = N) (hk5 : 5 * k + 5 ≤ N) (hN : N ≤ 2560) (hH : H ≤ 800000000) (ih : zIH d k N sl kd xs H f Φ) : eb_P mL_law (d + 401) 1006 [(4, .int (nI (5 * k))), (3, .ref 137), (2, .ref 112), (1, .ref 0), (0, .ref 1000060)] [] (138, sl, kd, I, L, Rf) Φ := by
  obtain ⟨B0, hB0⟩ := hL.2.2.2
  refine ep_aload_n (i := 1) dL_law_1006 rfl rfl ?_
  refine ep_callV (i := 0) (M1 := mX10_bears) (rest := []) dL_law_1007 mlL_147 mvX10_bears rfl (Nat.le_of_ble_eq_true rfl) (hL.1.F.kc (by decide) rfl) (Nat.le_of_ble_eq_true rfl) rfl (z_clsF (f := f) hL.2.1 hB0 (c_bears (d + 340) hL.1 hL.2.2.1 (by omega) f B0)) zpXc_ok ?_
  rintro _ _ ⟨rfl, I1, L1, R1, rfl, hC1, hM1, ⟨B1, hB1⟩, hx1⟩
  show eb_P _ _ 1010 [(4, .int (nI (5 * k))), (3, .ref 137), (2, .ref 112), (1, .ref 0), (0, .ref 1000060)] [.int ((s_bears T).1)] (138, sl, kd, I1, L1, R1) _
  replace hx1 : I1 1000060 = xs := hx1.trans hx
  refine ep_aload_n (i := 2) dL_law_1010 rfl rfl ?_
  refine ep_callV (i := 112) (M1 := mX11_bears) (rest := [.int ((s_bears T).1)]) dL_law_1011 mlL_150 mvX11_bears rfl (Nat.le_of_ble_eq_true rfl) (hC1.F.kc (by decide) rfl) (Nat.le_of_ble_eq_true rfl) rfl (z_refQ (f := f) hC1 hB1 (y_X11_bears (d + 0) hM1 hL.2.2.1 (by omega))) zpY_ok ?_
  rintro _ _ ⟨rfl, I2, L2, R2, rfl, hC2, hM2, hB2, h9, hx2⟩
  show eb_P _ _ 1014 [(4, .int (nI (5 * k))), (3, .ref 137), (2, .ref 112), (1, .ref 0), (0, .ref 1000060)] [.int ((s_bears T).1), .int ((s_bears T).1)] (138, sl, kd, I2, L2, R2) _
  replace hx2 : I2 1000060 = xs := hx2.trans hx1
  refine ep_icmp_eq (tgt := 1563) dL_law_1014 (by decide) (fun _ => ?_) (fun h => absurd rfl h)
  exact ih sl I2 L2 R2 _ (Nat.le_add_right _ _) (Nat.le_add_right _ _) ⟨hC2, hM2, (o_bears hL.2.2.1).le (by omega), hB2⟩ hx2
theorem lc_29 (d : Nat) {k N f H : Nat} {sl : Nat × Nat} {kd : Nat → Nat × Nat} {I : Nat → Nat → Int32} {L : Nat → Nat → Int64} {Rf : Nat → Nat → Option Nat} {T : zT} {xs : Nat → Int32} {Φ : Option Value → eb_S → Prop} (hL : zL 138 kd I L Rf T H (f + 100)) (hx : I 1000060 = xs) (hkN : (kd 1000060).2 = N) (hk5 : 5 * k + 5 ≤ N) (hN : N ≤ 2560) (hH : H ≤ 800000000) (ih : zIH d k N sl kd xs H f Φ) : eb_P mL_law (d + 401) 1019 [(4, .int (nI (5 * k))), (3, .ref 137), (2, .ref 112), (1, .ref 0), (0, .ref 1000060)] [] (138, sl, kd, I, L, Rf) Φ := by
  obtain ⟨B0, hB0⟩ := hL.2.2.2
  refine ep_aload_n (i := 1) dL_law_1019 rfl rfl ?_
  refine ep_callV (i := 0) (M1 := mX10_parties) (rest := []) dL_law_1020 mlL_151 mvX10_parties rfl (Nat.le_of_ble_eq_true rfl) (hL.1.F.kc (by decide) rfl) (Nat.le_of_ble_eq_true rfl) rfl (z_clsQ (f := f) hL.2.1 hB0 (c_parties (d + 340) hL.1 hL.2.2.1 (by omega))) zpXc_ok ?_
  rintro _ _ ⟨rfl, I1, L1, R1, rfl, hC1, hM1, ⟨B1, hB1⟩, hx1⟩
  show eb_P _ _ 1023 [(4, .int (nI (5 * k))), (3, .ref 137), (2, .ref 112), (1, .ref 0), (0, .ref 1000060)] [.int ((s_parties T).1)] (138, sl, kd, I1, L1, R1) _
  replace hx1 : I1 1000060 = xs := hx1.trans hx
  refine ep_aload_n (i := 2) dL_law_1023 rfl rfl ?_
  refine ep_callV (i := 112) (M1 := mX11_parties) (rest := [.int ((s_parties T).1)]) dL_law_1024 mlL_154 mvX11_parties rfl (Nat.le_of_ble_eq_true rfl) (hC1.F.kc (by decide) rfl) (Nat.le_of_ble_eq_true rfl) rfl (z_refQ (f := f) hC1 hB1 (y_X11_parties (d + 0) hM1 hL.2.2.1 (by omega))) zpY_ok ?_
  rintro _ _ ⟨rfl, I2, L2, R2, rfl, hC2, hM2, hB2, h9, hx2⟩
  show eb_P _ _ 1027 [(4, .int (nI (5 * k))), (3, .ref 137), (2, .ref 112), (1, .ref 0), (0, .ref 1000060)] [.int ((s_parties T).1), .int ((s_parties T).1)] (138, sl, kd, I2, L2, R2) _
  replace hx2 : I2 1000060 = xs := hx2.trans hx1
  refine ep_icmp_eq (tgt := 1563) dL_law_1027 (by decide) (fun _ => ?_) (fun h => absurd rfl h)
  exact ih sl I2 L2 R2 _ (Nat.le_add_right _ _) (Nat.le_add_right _ _) ⟨hC2, hM2, (o_parties hL.2.2.1).le (by omega), hB2⟩ hx2
theorem lc_30 (d : Nat) {k N f H : Nat} {sl : Nat × Nat} {kd : Nat → Nat × Nat} {I : Nat → Nat → Int32} {L : Nat → Nat → Int64} {Rf : Nat → Nat → Option Nat} {T : zT} {xs : Nat → Int32} {Φ : Option Value → eb_S → Prop} (hL : zL 138 kd I L Rf T H (f + 100)) (hx : I 1000060 = xs) (hkN : (kd 1000060).2 = N) (hk5 : 5 * k + 5 ≤ N) (hN : N ≤ 2560) (hH : H ≤ 800000000) (ih : zIH d k N sl kd xs H f Φ) : eb_P mL_law (d + 401) 1032 [(4, .int (nI (5 * k))), (3, .ref 137), (2, .ref 112), (1, .ref 0), (0, .ref 1000060)] [] (138, sl, kd, I, L, Rf) Φ := by
  obtain ⟨B0, hB0⟩ := hL.2.2.2
  refine ep_aload_n (i := 1) dL_law_1032 rfl rfl ?_
  refine ep_aload_n (i := 0) dL_law_1033 rfl rfl ?_
  refine ep_iload (i := 4) dL_law_1034 rfl ?_
  refine ep_iconst (v := 1) dL_law_1036 (by decide) ?_
  refine ep_iadd dL_law_1037 ?_
  refine ep_topE (y := nI (5 * k + 1)) (nI_add _ _) ?_
  refine ep_xi dL_law_1038 (Or.inr rfl) hkN (vp_in_nI (by omega) (by omega)) ?_
  refine ep_topE (y := xs (5 * k + 1)) (by rw [nI_clamp (by omega)]; exact congrFun hx _) ?_
  refine ep_callV (i := 0) (M1 := mX10_just) (rest := []) dL_law_1039 mlL_155 mvX10_just rfl (Nat.le_of_ble_eq_true rfl) (hL.1.F.kc (by decide) rfl) (Nat.le_of_ble_eq_true rfl) rfl (z_clsQ (f := f) hL.2.1 hB0 (c_just (d + 340) hL.1 hL.2.2.1 (by omega) (xs (5 * k + 1)))) zpXc_ok ?_
  rintro _ _ ⟨rfl, I1, L1, R1, rfl, hC1, hM1, ⟨B1, hB1⟩, hx1⟩
  show eb_P _ _ 1042 [(4, .int (nI (5 * k))), (3, .ref 137), (2, .ref 112), (1, .ref 0), (0, .ref 1000060)] [.int ((s_just T (xs (5 * k + 1))).1)] (138, sl, kd, I1, L1, R1) _
  replace hx1 : I1 1000060 = xs := hx1.trans hx
  refine ep_aload_n (i := 2) dL_law_1042 rfl rfl ?_
  refine ep_aload_n (i := 0) dL_law_1043 rfl rfl ?_
  refine ep_iload (i := 4) dL_law_1044 rfl ?_
  refine ep_iconst (v := 1) dL_law_1046 (by decide) ?_
  refine ep_iadd dL_law_1047 ?_
  refine ep_topE (y := nI (5 * k + 1)) (nI_add _ _) ?_
  refine ep_xi dL_law_1048 (Or.inr rfl) hkN (vp_in_nI (by omega) (by omega)) ?_
  refine ep_topE (y := xs (5 * k + 1)) (by rw [nI_clamp (by omega)]; exact congrFun hx1 _) ?_
  refine ep_callV (i := 112) (M1 := mX11_just) (rest := [.int ((s_just T (xs (5 * k + 1))).1)]) dL_law_1049 mlL_158 mvX11_just rfl (Nat.le_of_ble_eq_true rfl) (hC1.F.kc (by decide) rfl) (Nat.le_of_ble_eq_true rfl) rfl (z_refQ (f := f) hC1 hB1 (y_X11_just (d + 0) hM1 hL.2.2.1 (by omega) (xs (5 * k + 1)))) zpY_ok ?_
  rintro _ _ ⟨rfl, I2, L2, R2, rfl, hC2, hM2, hB2, h9, hx2⟩
  show eb_P _ _ 1052 [(4, .int (nI (5 * k))), (3, .ref 137), (2, .ref 112), (1, .ref 0), (0, .ref 1000060)] [.int ((s_just T (xs (5 * k + 1))).1), .int ((s_just T (xs (5 * k + 1))).1)] (138, sl, kd, I2, L2, R2) _
  replace hx2 : I2 1000060 = xs := hx2.trans hx1
  refine ep_icmp_eq (tgt := 1563) dL_law_1052 (by decide) (fun _ => ?_) (fun h => absurd rfl h)
  exact ih sl I2 L2 R2 _ (Nat.le_add_right _ _) (Nat.le_add_right _ _) ⟨hC2, hM2, (o_just hL.2.2.1 (xs (5 * k + 1))).le (by omega), hB2⟩ hx2
theorem lc_31 (d : Nat) {k N f H : Nat} {sl : Nat × Nat} {kd : Nat → Nat × Nat} {I : Nat → Nat → Int32} {L : Nat → Nat → Int64} {Rf : Nat → Nat → Option Nat} {T : zT} {xs : Nat → Int32} {Φ : Option Value → eb_S → Prop} (hL : zL 138 kd I L Rf T H (f + 100)) (hx : I 1000060 = xs) (hkN : (kd 1000060).2 = N) (hk5 : 5 * k + 5 ≤ N) (hN : N ≤ 2560) (hH : H ≤ 800000000) (ih : zIH d k N sl kd xs H f Φ) : eb_P mL_law (d + 401) 1057 [(4, .int (nI (5 * k))), (3, .ref 137), (2, .ref 112), (1, .ref 0), (0, .ref 1000060)] [] (138, sl, kd, I, L, Rf) Φ := by
  obtain ⟨B0, hB0⟩ := hL.2.2.2
  refine ep_aload_n (i := 1) dL_law_1057 rfl rfl ?_
  refine ep_callV (i := 0) (M1 := mX10_swaps) (rest := []) dL_law_1058 mlL_159 mvX10_swaps rfl (Nat.le_of_ble_eq_true rfl) (hL.1.F.kc (by decide) rfl) (Nat.le_of_ble_eq_true rfl) rfl (z_clsF (f := f) hL.2.1 hB0 (c_swaps (d + 340) hL.1 hL.2.2.1 (by omega) f B0)) zpXc_ok ?_
  rintro _ _ ⟨rfl, I1, L1, R1, rfl, hC1, hM1, ⟨B1, hB1⟩, hx1⟩
  show eb_P _ _ 1061 [(4, .int (nI (5 * k))), (3, .ref 137), (2, .ref 112), (1, .ref 0), (0, .ref 1000060)] [.int ((s_swaps T).1)] (138, sl, kd, I1, L1, R1) _
  replace hx1 : I1 1000060 = xs := hx1.trans hx
  refine ep_aload_n (i := 2) dL_law_1061 rfl rfl ?_
  refine ep_callV (i := 112) (M1 := mX11_swaps) (rest := [.int ((s_swaps T).1)]) dL_law_1062 mlL_162 mvX11_swaps rfl (Nat.le_of_ble_eq_true rfl) (hC1.F.kc (by decide) rfl) (Nat.le_of_ble_eq_true rfl) rfl (z_refQ (f := f) hC1 hB1 (y_X11_swaps (d + 0) hM1 hL.2.2.1 (by omega))) zpY_ok ?_
  rintro _ _ ⟨rfl, I2, L2, R2, rfl, hC2, hM2, hB2, h9, hx2⟩
  show eb_P _ _ 1065 [(4, .int (nI (5 * k))), (3, .ref 137), (2, .ref 112), (1, .ref 0), (0, .ref 1000060)] [.int ((s_swaps T).1), .int ((s_swaps T).1)] (138, sl, kd, I2, L2, R2) _
  replace hx2 : I2 1000060 = xs := hx2.trans hx1
  refine ep_icmp_eq (tgt := 1563) dL_law_1065 (by decide) (fun _ => ?_) (fun h => absurd rfl h)
  exact ih sl I2 L2 R2 _ (Nat.le_add_right _ _) (Nat.le_add_right _ _) ⟨hC2, hM2, (o_swaps hL.2.2.1).le (by omega), hB2⟩ hx2
theorem lc_32 (d : Nat) {k N f H : Nat} {sl : Nat × Nat} {kd : Nat → Nat × Nat} {I : Nat → Nat → Int32} {L : Nat → Nat → Int64} {Rf : Nat → Nat → Option Nat} {T : zT} {xs : Nat → Int32} {Φ : Option Value → eb_S → Prop} (hL : zL 138 kd I L Rf T H (f + 100)) (hx : I 1000060 = xs) (hkN : (kd 1000060).2 = N) (hk5 : 5 * k + 5 ≤ N) (hN : N ≤ 2560) (hH : H ≤ 800000000) (ih : zIH d k N sl kd xs H f Φ) : eb_P mL_law (d + 401) 1070 [(4, .int (nI (5 * k))), (3, .ref 137), (2, .ref 112), (1, .ref 0), (0, .ref 1000060)] [] (138, sl, kd, I, L, Rf) Φ := by
  obtain ⟨B0, hB0⟩ := hL.2.2.2
  refine ep_aload_n (i := 1) dL_law_1070 rfl rfl ?_
  refine ep_callV (i := 0) (M1 := mX10_line) (rest := []) dL_law_1071 mlL_163 mvX10_line rfl (Nat.le_of_ble_eq_true rfl) (hL.1.F.kc (by decide) rfl) (Nat.le_of_ble_eq_true rfl) rfl (z_clsQ (f := f) hL.2.1 hB0 (c_line (d + 340) hL.1 hL.2.2.1 (by omega))) zpXc_ok ?_
  rintro _ _ ⟨rfl, I1, L1, R1, rfl, hC1, hM1, ⟨B1, hB1⟩, hx1⟩
  show eb_P _ _ 1074 [(4, .int (nI (5 * k))), (3, .ref 137), (2, .ref 112), (1, .ref 0), (0, .ref 1000060)] [.int ((s_line T).1)] (138, sl, kd, I1, L1, R1) _
  replace hx1 : I1 1000060 = xs := hx1.trans hx
  refine ep_aload_n (i := 2) dL_law_1074 rfl rfl ?_
  refine ep_callV (i := 112) (M1 := mX11_line) (rest := [.int ((s_line T).1)]) dL_law_1075 mlL_166 mvX11_line rfl (Nat.le_of_ble_eq_true rfl) (hC1.F.kc (by decide) rfl) (Nat.le_of_ble_eq_true rfl) rfl (z_refQ (f := f) hC1 hB1 (y_X11_line (d + 0) hM1 hL.2.2.1 (by omega))) zpY_ok ?_
  rintro _ _ ⟨rfl, I2, L2, R2, rfl, hC2, hM2, hB2, h9, hx2⟩
  show eb_P _ _ 1078 [(4, .int (nI (5 * k))), (3, .ref 137), (2, .ref 112), (1, .ref 0), (0, .ref 1000060)] [.int ((s_line T).1), .int ((s_line T).1)] (138, sl, kd, I2, L2, R2) _
  replace hx2 : I2 1000060 = xs := hx2.trans hx1
  refine ep_icmp_eq (tgt := 1563) dL_law_1078 (by decide) (fun _ => ?_) (fun h => absurd rfl h)
  exact ih sl I2 L2 R2 _ (Nat.le_add_right _ _) (Nat.le_add_right _ _) ⟨hC2, hM2, (o_line hL.2.2.1).le (by omega), hB2⟩ hx2
theorem lc_33 (d : Nat) {k N f H : Nat} {sl : Nat × Nat} {kd : Nat → Nat × Nat} {I : Nat → Nat → Int32} {L : Nat → Nat → Int64} {Rf : Nat → Nat → Option Nat} {T : zT} {xs : Nat → Int32} {Φ : Option Value → eb_S → Prop} (hL : zL 138 kd I L Rf T H (f + 100)) (hx : I 1000060 = xs) (hkN : (kd 1000060).2 = N) (hk5 : 5 * k + 5 ≤ N) (hN : N ≤ 2560) (hH : H ≤ 800000000) (ih : zIH d k N sl kd xs H f Φ) : eb_P mL_law (d + 401) 1083 [(4, .int (nI (5 * k))), (3, .ref 137), (2, .ref 112), (1, .ref 0), (0, .ref 1000060)] [] (138, sl, kd, I, L, Rf) Φ := by
  obtain ⟨B0, hB0⟩ := hL.2.2.2
  refine ep_aload_n (i := 1) dL_law_1083 rfl rfl ?_
  refine ep_callV (i := 0) (M1 := mX10_apart) (rest := []) dL_law_1084 mlL_167 mvX10_apart rfl (Nat.le_of_ble_eq_true rfl) (hL.1.F.kc (by decide) rfl) (Nat.le_of_ble_eq_true rfl) rfl (z_clsQ (f := f) hL.2.1 hB0 (c_apart (d + 340) hL.1 hL.2.2.1 (by omega))) zpXc_ok ?_
  rintro _ _ ⟨rfl, I1, L1, R1, rfl, hC1, hM1, ⟨B1, hB1⟩, hx1⟩
  show eb_P _ _ 1087 [(4, .int (nI (5 * k))), (3, .ref 137), (2, .ref 112), (1, .ref 0), (0, .ref 1000060)] [.int ((s_apart T).1)] (138, sl, kd, I1, L1, R1) _
  replace hx1 : I1 1000060 = xs := hx1.trans hx
  refine ep_aload_n (i := 2) dL_law_1087 rfl rfl ?_
  refine ep_callV (i := 112) (M1 := mX11_apart) (rest := [.int ((s_apart T).1)]) dL_law_1088 mlL_170 mvX11_apart rfl (Nat.le_of_ble_eq_true rfl) (hC1.F.kc (by decide) rfl) (Nat.le_of_ble_eq_true rfl) rfl (z_refQ (f := f) hC1 hB1 (y_X11_apart (d + 0) hM1 hL.2.2.1 (by omega))) zpY_ok ?_
  rintro _ _ ⟨rfl, I2, L2, R2, rfl, hC2, hM2, hB2, h9, hx2⟩
  show eb_P _ _ 1091 [(4, .int (nI (5 * k))), (3, .ref 137), (2, .ref 112), (1, .ref 0), (0, .ref 1000060)] [.int ((s_apart T).1), .int ((s_apart T).1)] (138, sl, kd, I2, L2, R2) _
  replace hx2 : I2 1000060 = xs := hx2.trans hx1
  refine ep_icmp_eq (tgt := 1563) dL_law_1091 (by decide) (fun _ => ?_) (fun h => absurd rfl h)
  exact ih sl I2 L2 R2 _ (Nat.le_add_right _ _) (Nat.le_add_right _ _) ⟨hC2, hM2, (o_apart hL.2.2.1).le (by omega), hB2⟩ hx2
theorem lc_34 (d : Nat) {k N f H : Nat} {sl : Nat × Nat} {kd : Nat → Nat × Nat} {I : Nat → Nat → Int32} {L : Nat → Nat → Int64} {Rf : Nat → Nat → Option Nat} {T : zT} {xs : Nat → Int32} {Φ : Option Value → eb_S → Prop} (hL : zL 138 kd I L Rf T H (f + 100)) (hx : I 1000060 = xs) (hkN : (kd 1000060).2 = N) (hk5 : 5 * k + 5 ≤ N) (hN : N ≤ 2560) (hH : H ≤ 800000000) (ih : zIH d k N sl kd xs H f Φ) : eb_P mL_law (d + 401) 1096 [(4, .int (nI (5 * k))), (3, .ref 137), (2, .ref 112), (1, .ref 0), (0, .ref 1000060)] [] (138, sl, kd, I, L, Rf) Φ := by
  obtain ⟨B0, hB0⟩ := hL.2.2.2
  refine ep_aload_n (i := 1) dL_law_1096 rfl rfl ?_
  refine ep_aload_n (i := 0) dL_law_1097 rfl rfl ?_
  refine ep_iload (i := 4) dL_law_1098 rfl ?_
  refine ep_iconst (v := 1) dL_law_1100 (by decide) ?_
  refine ep_iadd dL_law_1101 ?_
  refine ep_topE (y := nI (5 * k + 1)) (nI_add _ _) ?_
  refine ep_xi dL_law_1102 (Or.inr rfl) hkN (vp_in_nI (by omega) (by omega)) ?_
  refine ep_topE (y := xs (5 * k + 1)) (by rw [nI_clamp (by omega)]; exact congrFun hx _) ?_
  refine ep_aload_n (i := 0) dL_law_1103 rfl rfl ?_
  refine ep_iload (i := 4) dL_law_1104 rfl ?_
  refine ep_iconst (v := 2) dL_law_1106 (by decide) ?_
  refine ep_iadd dL_law_1107 ?_
  refine ep_topE (y := nI (5 * k + 2)) (nI_add _ _) ?_
  refine ep_xi dL_law_1108 (Or.inr rfl) hkN (vp_in_nI (by omega) (by omega)) ?_
  refine ep_topE (y := xs (5 * k + 2)) (by rw [nI_clamp (by omega)]; exact congrFun hx _) ?_
  refine ep_aload_n (i := 0) dL_law_1109 rfl rfl ?_
  refine ep_iload (i := 4) dL_law_1110 rfl ?_
  refine ep_iconst (v := 3) dL_law_1112 (by decide) ?_
  refine ep_iadd dL_law_1113 ?_
  refine ep_topE (y := nI (5 * k + 3)) (nI_add _ _) ?_
  refine ep_xi dL_law_1114 (Or.inr rfl) hkN (vp_in_nI (by omega) (by omega)) ?_
  refine ep_topE (y := xs (5 * k + 3)) (by rw [nI_clamp (by omega)]; exact congrFun hx _) ?_
  refine ep_callV (i := 0) (M1 := mX10_saw) (rest := []) dL_law_1115 mlL_171 mvX10_saw rfl (Nat.le_of_ble_eq_true rfl) (hL.1.F.kc (by decide) rfl) (Nat.le_of_ble_eq_true rfl) rfl (z_clsQ (f := f) hL.2.1 hB0 (c_saw (d + 340) hL.1 hL.2.2.1 (by omega) (xs (5 * k + 1)) (xs (5 * k + 2)) (xs (5 * k + 3)))) zpXc_ok ?_
  rintro _ _ ⟨rfl, I1, L1, R1, rfl, hC1, hM1, ⟨B1, hB1⟩, hx1⟩
  show eb_P _ _ 1118 [(4, .int (nI (5 * k))), (3, .ref 137), (2, .ref 112), (1, .ref 0), (0, .ref 1000060)] [.int ((s_saw T (xs (5 * k + 1)) (xs (5 * k + 2)) (xs (5 * k + 3))).1)] (138, sl, kd, I1, L1, R1) _
  replace hx1 : I1 1000060 = xs := hx1.trans hx
  refine ep_aload_n (i := 2) dL_law_1118 rfl rfl ?_
  refine ep_aload_n (i := 0) dL_law_1119 rfl rfl ?_
  refine ep_iload (i := 4) dL_law_1120 rfl ?_
  refine ep_iconst (v := 1) dL_law_1122 (by decide) ?_
  refine ep_iadd dL_law_1123 ?_
  refine ep_topE (y := nI (5 * k + 1)) (nI_add _ _) ?_
  refine ep_xi dL_law_1124 (Or.inr rfl) hkN (vp_in_nI (by omega) (by omega)) ?_
  refine ep_topE (y := xs (5 * k + 1)) (by rw [nI_clamp (by omega)]; exact congrFun hx1 _) ?_
  refine ep_aload_n (i := 0) dL_law_1125 rfl rfl ?_
  refine ep_iload (i := 4) dL_law_1126 rfl ?_
  refine ep_iconst (v := 2) dL_law_1128 (by decide) ?_
  refine ep_iadd dL_law_1129 ?_
  refine ep_topE (y := nI (5 * k + 2)) (nI_add _ _) ?_
  refine ep_xi dL_law_1130 (Or.inr rfl) hkN (vp_in_nI (by omega) (by omega)) ?_
  refine ep_topE (y := xs (5 * k + 2)) (by rw [nI_clamp (by omega)]; exact congrFun hx1 _) ?_
  refine ep_aload_n (i := 0) dL_law_1131 rfl rfl ?_
  refine ep_iload (i := 4) dL_law_1132 rfl ?_
  refine ep_iconst (v := 3) dL_law_1134 (by decide) ?_
  refine ep_iadd dL_law_1135 ?_
  refine ep_topE (y := nI (5 * k + 3)) (nI_add _ _) ?_
  refine ep_xi dL_law_1136 (Or.inr rfl) hkN (vp_in_nI (by omega) (by omega)) ?_
  refine ep_topE (y := xs (5 * k + 3)) (by rw [nI_clamp (by omega)]; exact congrFun hx1 _) ?_
  refine ep_callV (i := 112) (M1 := mX11_saw) (rest := [.int ((s_saw T (xs (5 * k + 1)) (xs (5 * k + 2)) (xs (5 * k + 3))).1)]) dL_law_1137 mlL_175 mvX11_saw rfl (Nat.le_of_ble_eq_true rfl) (hC1.F.kc (by decide) rfl) (Nat.le_of_ble_eq_true rfl) rfl (z_refQ (f := f) hC1 hB1 (y_X11_saw (d + 380) hM1 hL.2.2.1 (xs (5 * k + 1)) (xs (5 * k + 2)) (xs (5 * k + 3)))) zpY_ok ?_
  rintro _ _ ⟨rfl, I2, L2, R2, rfl, hC2, hM2, hB2, h9, hx2⟩
  show eb_P _ _ 1140 [(4, .int (nI (5 * k))), (3, .ref 137), (2, .ref 112), (1, .ref 0), (0, .ref 1000060)] [.int ((s_saw T (xs (5 * k + 1)) (xs (5 * k + 2)) (xs (5 * k + 3))).1), .int ((s_saw T (xs (5 * k + 1)) (xs (5 * k + 2)) (xs (5 * k + 3))).1)] (138, sl, kd, I2, L2, R2) _
  replace hx2 : I2 1000060 = xs := hx2.trans hx1
  refine ep_icmp_eq (tgt := 1563) dL_law_1140 (by decide) (fun _ => ?_) (fun h => absurd rfl h)
  exact ih sl I2 L2 R2 _ (Nat.le_add_right _ _) (Nat.le_add_right _ _) ⟨hC2, hM2, (o_saw hL.2.2.1 (xs (5 * k + 1)) (xs (5 * k + 2)) (xs (5 * k + 3))).le (by omega), hB2⟩ hx2
theorem lc_35 (d : Nat) {k N f H : Nat} {sl : Nat × Nat} {kd : Nat → Nat × Nat} {I : Nat → Nat → Int32} {L : Nat → Nat → Int64} {Rf : Nat → Nat → Option Nat} {T : zT} {xs : Nat → Int32} {Φ : Option Value → eb_S → Prop} (hL : zL 138 kd I L Rf T H (f + 100)) (hx : I 1000060 = xs) (hkN : (kd 1000060).2 = N) (hk5 : 5 * k + 5 ≤ N) (hN : N ≤ 2560) (hH : H ≤ 800000000) (ih : zIH d k N sl kd xs H f Φ) : eb_P mL_law (d + 401) 1145 [(4, .int (nI (5 * k))), (3, .ref 137), (2, .ref 112), (1, .ref 0), (0, .ref 1000060)] [] (138, sl, kd, I, L, Rf) Φ := by
  obtain ⟨B0, hB0⟩ := hL.2.2.2
  refine ep_aload_n (i := 1) dL_law_1145 rfl rfl ?_
  refine ep_callV (i := 0) (M1 := mX10_denies) (rest := []) dL_law_1146 mlL_176 mvX10_denies rfl (Nat.le_of_ble_eq_true rfl) (hL.1.F.kc (by decide) rfl) (Nat.le_of_ble_eq_true rfl) rfl (z_clsQ (f := f) hL.2.1 hB0 (c_denies (d + 340) hL.1 hL.2.2.1 (by omega))) zpXc_ok ?_
  rintro _ _ ⟨rfl, I1, L1, R1, rfl, hC1, hM1, ⟨B1, hB1⟩, hx1⟩
  show eb_P _ _ 1149 [(4, .int (nI (5 * k))), (3, .ref 137), (2, .ref 112), (1, .ref 0), (0, .ref 1000060)] [.int ((s_denies T).1)] (138, sl, kd, I1, L1, R1) _
  replace hx1 : I1 1000060 = xs := hx1.trans hx
  refine ep_aload_n (i := 2) dL_law_1149 rfl rfl ?_
  refine ep_callV (i := 112) (M1 := mX11_denies) (rest := [.int ((s_denies T).1)]) dL_law_1150 mlL_179 mvX11_denies rfl (Nat.le_of_ble_eq_true rfl) (hC1.F.kc (by decide) rfl) (Nat.le_of_ble_eq_true rfl) rfl (z_refQ (f := f) hC1 hB1 (y_X11_denies (d + 380) hM1 hL.2.2.1)) zpY_ok ?_
  rintro _ _ ⟨rfl, I2, L2, R2, rfl, hC2, hM2, hB2, h9, hx2⟩
  show eb_P _ _ 1153 [(4, .int (nI (5 * k))), (3, .ref 137), (2, .ref 112), (1, .ref 0), (0, .ref 1000060)] [.int ((s_denies T).1), .int ((s_denies T).1)] (138, sl, kd, I2, L2, R2) _
  replace hx2 : I2 1000060 = xs := hx2.trans hx1
  refine ep_icmp_eq (tgt := 1563) dL_law_1153 (by decide) (fun _ => ?_) (fun h => absurd rfl h)
  exact ih sl I2 L2 R2 _ (Nat.le_add_right _ _) (Nat.le_add_right _ _) ⟨hC2, hM2, (o_denies hL.2.2.1).le (by omega), hB2⟩ hx2
theorem lc_36 (d : Nat) {k N f H : Nat} {sl : Nat × Nat} {kd : Nat → Nat × Nat} {I : Nat → Nat → Int32} {L : Nat → Nat → Int64} {Rf : Nat → Nat → Option Nat} {T : zT} {xs : Nat → Int32} {Φ : Option Value → eb_S → Prop} (hL : zL 138 kd I L Rf T H (f + 100)) (hx : I 1000060 = xs) (hkN : (kd 1000060).2 = N) (hk5 : 5 * k + 5 ≤ N) (hN : N ≤ 2560) (hH : H ≤ 800000000) (ih : zIH d k N sl kd xs H f Φ) : eb_P mL_law (d + 401) 1158 [(4, .int (nI (5 * k))), (3, .ref 137), (2, .ref 112), (1, .ref 0), (0, .ref 1000060)] [] (138, sl, kd, I, L, Rf) Φ := by
  obtain ⟨B0, hB0⟩ := hL.2.2.2
  refine ep_aload_n (i := 1) dL_law_1158 rfl rfl ?_
  refine ep_aload_n (i := 0) dL_law_1159 rfl rfl ?_
  refine ep_iload (i := 4) dL_law_1160 rfl ?_
  refine ep_iconst (v := 1) dL_law_1162 (by decide) ?_
  refine ep_iadd dL_law_1163 ?_
  refine ep_topE (y := nI (5 * k + 1)) (nI_add _ _) ?_
  refine ep_xi dL_law_1164 (Or.inr rfl) hkN (vp_in_nI (by omega) (by omega)) ?_
  refine ep_topE (y := xs (5 * k + 1)) (by rw [nI_clamp (by omega)]; exact congrFun hx _) ?_
  refine ep_callV (i := 0) (M1 := mX10_minds) (rest := []) dL_law_1165 mlL_180 mvX10_minds rfl (Nat.le_of_ble_eq_true rfl) (hL.1.F.kc (by decide) rfl) (Nat.le_of_ble_eq_true rfl) rfl (z_clsF (f := f) hL.2.1 hB0 (c_minds (d + 340) hL.1 hL.2.2.1 (by omega) (xs (5 * k + 1)) f B0)) zpXc_ok ?_
  rintro _ _ ⟨rfl, I1, L1, R1, rfl, hC1, hM1, ⟨B1, hB1⟩, hx1⟩
  show eb_P _ _ 1168 [(4, .int (nI (5 * k))), (3, .ref 137), (2, .ref 112), (1, .ref 0), (0, .ref 1000060)] [.int ((s_minds T (xs (5 * k + 1))).1)] (138, sl, kd, I1, L1, R1) _
  replace hx1 : I1 1000060 = xs := hx1.trans hx
  refine ep_aload_n (i := 2) dL_law_1168 rfl rfl ?_
  refine ep_aload_n (i := 0) dL_law_1169 rfl rfl ?_
  refine ep_iload (i := 4) dL_law_1170 rfl ?_
  refine ep_iconst (v := 1) dL_law_1172 (by decide) ?_
  refine ep_iadd dL_law_1173 ?_
  refine ep_topE (y := nI (5 * k + 1)) (nI_add _ _) ?_
  refine ep_xi dL_law_1174 (Or.inr rfl) hkN (vp_in_nI (by omega) (by omega)) ?_
  refine ep_topE (y := xs (5 * k + 1)) (by rw [nI_clamp (by omega)]; exact congrFun hx1 _) ?_
  refine ep_callV (i := 112) (M1 := mX11_minds) (rest := [.int ((s_minds T (xs (5 * k + 1))).1)]) dL_law_1175 mlL_183 mvX11_minds rfl (Nat.le_of_ble_eq_true rfl) (hC1.F.kc (by decide) rfl) (Nat.le_of_ble_eq_true rfl) rfl (z_refQ (f := f) hC1 hB1 (y_X11_minds (d + 0) hM1 hL.2.2.1 (by omega) (xs (5 * k + 1)))) zpY_ok ?_
  rintro _ _ ⟨rfl, I2, L2, R2, rfl, hC2, hM2, hB2, h9, hx2⟩
  show eb_P _ _ 1178 [(4, .int (nI (5 * k))), (3, .ref 137), (2, .ref 112), (1, .ref 0), (0, .ref 1000060)] [.int ((s_minds T (xs (5 * k + 1))).1), .int ((s_minds T (xs (5 * k + 1))).1)] (138, sl, kd, I2, L2, R2) _
  replace hx2 : I2 1000060 = xs := hx2.trans hx1
  refine ep_icmp_eq (tgt := 1563) dL_law_1178 (by decide) (fun _ => ?_) (fun h => absurd rfl h)
  exact ih sl I2 L2 R2 _ (Nat.le_add_right _ _) (Nat.le_add_right _ _) ⟨hC2, hM2, (o_minds hL.2.2.1 (xs (5 * k + 1))).le (by omega), hB2⟩ hx2
theorem lc_37 (d : Nat) {k N f H : Nat} {sl : Nat × Nat} {kd : Nat → Nat × Nat} {I : Nat → Nat → Int32} {L : Nat → Nat → Int64} {Rf : Nat → Nat → Option Nat} {T : zT} {xs : Nat → Int32} {Φ : Option Value → eb_S → Prop} (hL : zL 138 kd I L Rf T H (f + 100)) (hx : I 1000060 = xs) (hkN : (kd 1000060).2 = N) (hk5 : 5 * k + 5 ≤ N) (hN : N ≤ 2560) (hH : H ≤ 800000000) (ih : zIH d k N sl kd xs H f Φ) : eb_P mL_law (d + 401) 1183 [(4, .int (nI (5 * k))), (3, .ref 137), (2, .ref 112), (1, .ref 0), (0, .ref 1000060)] [] (138, sl, kd, I, L, Rf) Φ := by
  obtain ⟨B0, hB0⟩ := hL.2.2.2
  refine ep_aload_n (i := 1) dL_law_1183 rfl rfl ?_
  refine ep_aload_n (i := 0) dL_law_1184 rfl rfl ?_
  refine ep_iload (i := 4) dL_law_1185 rfl ?_
  refine ep_iconst (v := 1) dL_law_1187 (by decide) ?_
  refine ep_iadd dL_law_1188 ?_
  refine ep_topE (y := nI (5 * k + 1)) (nI_add _ _) ?_
  refine ep_xi dL_law_1189 (Or.inr rfl) hkN (vp_in_nI (by omega) (by omega)) ?_
  refine ep_topE (y := xs (5 * k + 1)) (by rw [nI_clamp (by omega)]; exact congrFun hx _) ?_
  refine ep_callV (i := 0) (M1 := mX10_looks) (rest := []) dL_law_1190 mlL_184 mvX10_looks rfl (Nat.le_of_ble_eq_true rfl) (hL.1.F.kc (by decide) rfl) (Nat.le_of_ble_eq_true rfl) rfl (z_clsF (f := f) hL.2.1 hB0 (c_looks (d + 340) hL.1 hL.2.2.1 (by omega) (xs (5 * k + 1)) f B0)) zpXc_ok ?_
  rintro _ _ ⟨rfl, I1, L1, R1, rfl, hC1, hM1, ⟨B1, hB1⟩, hx1⟩
  show eb_P _ _ 1193 [(4, .int (nI (5 * k))), (3, .ref 137), (2, .ref 112), (1, .ref 0), (0, .ref 1000060)] [.int ((s_looks T (xs (5 * k + 1))).1)] (138, sl, kd, I1, L1, R1) _
  replace hx1 : I1 1000060 = xs := hx1.trans hx
  refine ep_aload_n (i := 2) dL_law_1193 rfl rfl ?_
  refine ep_aload_n (i := 0) dL_law_1194 rfl rfl ?_
  refine ep_iload (i := 4) dL_law_1195 rfl ?_
  refine ep_iconst (v := 1) dL_law_1197 (by decide) ?_
  refine ep_iadd dL_law_1198 ?_
  refine ep_topE (y := nI (5 * k + 1)) (nI_add _ _) ?_
  refine ep_xi dL_law_1199 (Or.inr rfl) hkN (vp_in_nI (by omega) (by omega)) ?_
  refine ep_topE (y := xs (5 * k + 1)) (by rw [nI_clamp (by omega)]; exact congrFun hx1 _) ?_
  refine ep_callV (i := 112) (M1 := mX11_looks) (rest := [.int ((s_looks T (xs (5 * k + 1))).1)]) dL_law_1200 mlL_187 mvX11_looks rfl (Nat.le_of_ble_eq_true rfl) (hC1.F.kc (by decide) rfl) (Nat.le_of_ble_eq_true rfl) rfl (z_refQ (f := f) hC1 hB1 (y_X11_looks (d + 0) hM1 hL.2.2.1 (by omega) (xs (5 * k + 1)))) zpY_ok ?_
  rintro _ _ ⟨rfl, I2, L2, R2, rfl, hC2, hM2, hB2, h9, hx2⟩
  show eb_P _ _ 1203 [(4, .int (nI (5 * k))), (3, .ref 137), (2, .ref 112), (1, .ref 0), (0, .ref 1000060)] [.int ((s_looks T (xs (5 * k + 1))).1), .int ((s_looks T (xs (5 * k + 1))).1)] (138, sl, kd, I2, L2, R2) _
  replace hx2 : I2 1000060 = xs := hx2.trans hx1
  refine ep_icmp_eq (tgt := 1563) dL_law_1203 (by decide) (fun _ => ?_) (fun h => absurd rfl h)
  exact ih sl I2 L2 R2 _ (Nat.le_add_right _ _) (Nat.le_add_right _ _) ⟨hC2, hM2, (o_looks hL.2.2.1 (xs (5 * k + 1))).le (by omega), hB2⟩ hx2
theorem lc_38 (d : Nat) {k N f H : Nat} {sl : Nat × Nat} {kd : Nat → Nat × Nat} {I : Nat → Nat → Int32} {L : Nat → Nat → Int64} {Rf : Nat → Nat → Option Nat} {T : zT} {xs : Nat → Int32} {Φ : Option Value → eb_S → Prop} (hL : zL 138 kd I L Rf T H (f + 100)) (hx : I 1000060 = xs) (hkN : (kd 1000060).2 = N) (hk5 : 5 * k + 5 ≤ N) (hN : N ≤ 2560) (hH : H ≤ 800000000) (ih : zIH d k N sl kd xs H f Φ) : eb_P mL_law (d + 401) 1208 [(4, .int (nI (5 * k))), (3, .ref 137), (2, .ref 112), (1, .ref 0), (0, .ref 1000060)] [] (138, sl, kd, I, L, Rf) Φ := by
  obtain ⟨B0, hB0⟩ := hL.2.2.2
  refine ep_aload_n (i := 1) dL_law_1208 rfl rfl ?_
  refine ep_aload_n (i := 0) dL_law_1209 rfl rfl ?_
  refine ep_iload (i := 4) dL_law_1210 rfl ?_
  refine ep_iconst (v := 1) dL_law_1212 (by decide) ?_
  refine ep_iadd dL_law_1213 ?_
  refine ep_topE (y := nI (5 * k + 1)) (nI_add _ _) ?_
  refine ep_xi dL_law_1214 (Or.inr rfl) hkN (vp_in_nI (by omega) (by omega)) ?_
  refine ep_topE (y := xs (5 * k + 1)) (by rw [nI_clamp (by omega)]; exact congrFun hx _) ?_
  refine ep_aload_n (i := 0) dL_law_1215 rfl rfl ?_
  refine ep_iload (i := 4) dL_law_1216 rfl ?_
  refine ep_iconst (v := 2) dL_law_1218 (by decide) ?_
  refine ep_iadd dL_law_1219 ?_
  refine ep_topE (y := nI (5 * k + 2)) (nI_add _ _) ?_
  refine ep_xi dL_law_1220 (Or.inr rfl) hkN (vp_in_nI (by omega) (by omega)) ?_
  refine ep_topE (y := xs (5 * k + 2)) (by rw [nI_clamp (by omega)]; exact congrFun hx _) ?_
  refine ep_callV (i := 0) (M1 := mX10_heard) (rest := []) dL_law_1221 mlL_188 mvX10_heard rfl (Nat.le_of_ble_eq_true rfl) (hL.1.F.kc (by decide) rfl) (Nat.le_of_ble_eq_true rfl) rfl (z_clsQ (f := f) hL.2.1 hB0 (c_heard (d + 340) hL.1 hL.2.2.1 (by omega) (xs (5 * k + 1)) (xs (5 * k + 2)))) zpXc_ok ?_
  rintro _ _ ⟨rfl, I1, L1, R1, rfl, hC1, hM1, ⟨B1, hB1⟩, hx1⟩
  show eb_P _ _ 1224 [(4, .int (nI (5 * k))), (3, .ref 137), (2, .ref 112), (1, .ref 0), (0, .ref 1000060)] [.int ((s_heard T (xs (5 * k + 1)) (xs (5 * k + 2))).1)] (138, sl, kd, I1, L1, R1) _
  replace hx1 : I1 1000060 = xs := hx1.trans hx
  refine ep_aload_n (i := 2) dL_law_1224 rfl rfl ?_
  refine ep_aload_n (i := 0) dL_law_1225 rfl rfl ?_
  refine ep_iload (i := 4) dL_law_1226 rfl ?_
  refine ep_iconst (v := 1) dL_law_1228 (by decide) ?_
  refine ep_iadd dL_law_1229 ?_
  refine ep_topE (y := nI (5 * k + 1)) (nI_add _ _) ?_
  refine ep_xi dL_law_1230 (Or.inr rfl) hkN (vp_in_nI (by omega) (by omega)) ?_
  refine ep_topE (y := xs (5 * k + 1)) (by rw [nI_clamp (by omega)]; exact congrFun hx1 _) ?_
  refine ep_aload_n (i := 0) dL_law_1231 rfl rfl ?_
  refine ep_iload (i := 4) dL_law_1232 rfl ?_
  refine ep_iconst (v := 2) dL_law_1234 (by decide) ?_
  refine ep_iadd dL_law_1235 ?_
  refine ep_topE (y := nI (5 * k + 2)) (nI_add _ _) ?_
  refine ep_xi dL_law_1236 (Or.inr rfl) hkN (vp_in_nI (by omega) (by omega)) ?_
  refine ep_topE (y := xs (5 * k + 2)) (by rw [nI_clamp (by omega)]; exact congrFun hx1 _) ?_
  refine ep_callV (i := 112) (M1 := mX11_heard) (rest := [.int ((s_heard T (xs (5 * k + 1)) (xs (5 * k + 2))).1)]) dL_law_1237 mlL_191 mvX11_heard rfl (Nat.le_of_ble_eq_true rfl) (hC1.F.kc (by decide) rfl) (Nat.le_of_ble_eq_true rfl) rfl (z_refQ (f := f) hC1 hB1 (y_X11_heard (d + 380) hM1 hL.2.2.1 (xs (5 * k + 1)) (xs (5 * k + 2)))) zpY_ok ?_
  rintro _ _ ⟨rfl, I2, L2, R2, rfl, hC2, hM2, hB2, h9, hx2⟩
  show eb_P _ _ 1240 [(4, .int (nI (5 * k))), (3, .ref 137), (2, .ref 112), (1, .ref 0), (0, .ref 1000060)] [.int ((s_heard T (xs (5 * k + 1)) (xs (5 * k + 2))).1), .int ((s_heard T (xs (5 * k + 1)) (xs (5 * k + 2))).1)] (138, sl, kd, I2, L2, R2) _
  replace hx2 : I2 1000060 = xs := hx2.trans hx1
  refine ep_icmp_eq (tgt := 1563) dL_law_1240 (by decide) (fun _ => ?_) (fun h => absurd rfl h)
  exact ih sl I2 L2 R2 _ (Nat.le_add_right _ _) (Nat.le_add_right _ _) ⟨hC2, hM2, (o_heard hL.2.2.1 (xs (5 * k + 1)) (xs (5 * k + 2))).le (by omega), hB2⟩ hx2
theorem lc_39 (d : Nat) {k N f H : Nat} {sl : Nat × Nat} {kd : Nat → Nat × Nat} {I : Nat → Nat → Int32} {L : Nat → Nat → Int64} {Rf : Nat → Nat → Option Nat} {T : zT} {xs : Nat → Int32} {Φ : Option Value → eb_S → Prop} (hL : zL 138 kd I L Rf T H (f + 100)) (hx : I 1000060 = xs) (hkN : (kd 1000060).2 = N) (hk5 : 5 * k + 5 ≤ N) (hN : N ≤ 2560) (hH : H ≤ 800000000) (ih : zIH d k N sl kd xs H f Φ) : eb_P mL_law (d + 401) 1245 [(4, .int (nI (5 * k))), (3, .ref 137), (2, .ref 112), (1, .ref 0), (0, .ref 1000060)] [] (138, sl, kd, I, L, Rf) Φ := by
  obtain ⟨B0, hB0⟩ := hL.2.2.2
  refine ep_aload_n (i := 1) dL_law_1245 rfl rfl ?_
  refine ep_callV (i := 0) (M1 := mX10_forget) (rest := []) dL_law_1246 mlL_192 mvX10_forget rfl (Nat.le_of_ble_eq_true rfl) (hL.1.F.kc (by decide) rfl) (Nat.le_of_ble_eq_true rfl) rfl (z_clsQ (f := f) hL.2.1 hB0 (c_forget (d + 340) hL.1 hL.2.2.1 (by omega))) zpXc_ok ?_
  rintro _ _ ⟨rfl, I1, L1, R1, rfl, hC1, hM1, ⟨B1, hB1⟩, hx1⟩
  show eb_P _ _ 1249 [(4, .int (nI (5 * k))), (3, .ref 137), (2, .ref 112), (1, .ref 0), (0, .ref 1000060)] [.int ((s_forget T).1)] (138, sl, kd, I1, L1, R1) _
  replace hx1 : I1 1000060 = xs := hx1.trans hx
  refine ep_aload_n (i := 2) dL_law_1249 rfl rfl ?_
  refine ep_callV (i := 112) (M1 := mX11_forget) (rest := [.int ((s_forget T).1)]) dL_law_1250 mlL_195 mvX11_forget rfl (Nat.le_of_ble_eq_true rfl) (hC1.F.kc (by decide) rfl) (Nat.le_of_ble_eq_true rfl) rfl (z_refQ (f := f) hC1 hB1 (y_X11_forget (d + 380) hM1 hL.2.2.1)) zpY_ok ?_
  rintro _ _ ⟨rfl, I2, L2, R2, rfl, hC2, hM2, hB2, h9, hx2⟩
  show eb_P _ _ 1253 [(4, .int (nI (5 * k))), (3, .ref 137), (2, .ref 112), (1, .ref 0), (0, .ref 1000060)] [.int ((s_forget T).1), .int ((s_forget T).1)] (138, sl, kd, I2, L2, R2) _
  replace hx2 : I2 1000060 = xs := hx2.trans hx1
  refine ep_icmp_eq (tgt := 1563) dL_law_1253 (by decide) (fun _ => ?_) (fun h => absurd rfl h)
  exact ih sl I2 L2 R2 _ (Nat.le_add_right _ _) (Nat.le_add_right _ _) ⟨hC2, hM2, (o_forget hL.2.2.1).le (by omega), hB2⟩ hx2
theorem lc_40 (d : Nat) {k N f H : Nat} {sl : Nat × Nat} {kd : Nat → Nat × Nat} {I : Nat → Nat → Int32} {L : Nat → Nat → Int64} {Rf : Nat → Nat → Option Nat} {T : zT} {xs : Nat → Int32} {Φ : Option Value → eb_S → Prop} (hL : zL 138 kd I L Rf T H (f + 100)) (hx : I 1000060 = xs) (hkN : (kd 1000060).2 = N) (hk5 : 5 * k + 5 ≤ N) (hN : N ≤ 2560) (hH : H ≤ 800000000) (ih : zIH d k N sl kd xs H f Φ) : eb_P mL_law (d + 401) 1258 [(4, .int (nI (5 * k))), (3, .ref 137), (2, .ref 112), (1, .ref 0), (0, .ref 1000060)] [] (138, sl, kd, I, L, Rf) Φ := by
  obtain ⟨B0, hB0⟩ := hL.2.2.2
  refine ep_aload_n (i := 1) dL_law_1258 rfl rfl ?_
  refine ep_callV (i := 0) (M1 := mX10_fits) (rest := []) dL_law_1259 mlL_196 mvX10_fits rfl (Nat.le_of_ble_eq_true rfl) (hL.1.F.kc (by decide) rfl) (Nat.le_of_ble_eq_true rfl) rfl (z_clsQ (f := f) hL.2.1 hB0 (c_fits (d + 340) hL.1 hL.2.2.1 (by omega))) zpXc_ok ?_
  rintro _ _ ⟨rfl, I1, L1, R1, rfl, hC1, hM1, ⟨B1, hB1⟩, hx1⟩
  show eb_P _ _ 1262 [(4, .int (nI (5 * k))), (3, .ref 137), (2, .ref 112), (1, .ref 0), (0, .ref 1000060)] [.int ((s_fits T).1)] (138, sl, kd, I1, L1, R1) _
  replace hx1 : I1 1000060 = xs := hx1.trans hx
  refine ep_aload_n (i := 2) dL_law_1262 rfl rfl ?_
  refine ep_callV (i := 112) (M1 := mX11_fits) (rest := [.int ((s_fits T).1)]) dL_law_1263 mlL_199 mvX11_fits rfl (Nat.le_of_ble_eq_true rfl) (hC1.F.kc (by decide) rfl) (Nat.le_of_ble_eq_true rfl) rfl (z_refQ (f := f) hC1 hB1 (y_X11_fits (d + 0) hM1 hL.2.2.1 (by omega))) zpY_ok ?_
  rintro _ _ ⟨rfl, I2, L2, R2, rfl, hC2, hM2, hB2, h9, hx2⟩
  show eb_P _ _ 1266 [(4, .int (nI (5 * k))), (3, .ref 137), (2, .ref 112), (1, .ref 0), (0, .ref 1000060)] [.int ((s_fits T).1), .int ((s_fits T).1)] (138, sl, kd, I2, L2, R2) _
  replace hx2 : I2 1000060 = xs := hx2.trans hx1
  refine ep_icmp_eq (tgt := 1563) dL_law_1266 (by decide) (fun _ => ?_) (fun h => absurd rfl h)
  exact ih sl I2 L2 R2 _ (Nat.le_add_right _ _) (Nat.le_add_right _ _) ⟨hC2, hM2, (o_fits hL.2.2.1).le (by omega), hB2⟩ hx2
theorem lc_41 (d : Nat) {k N f H : Nat} {sl : Nat × Nat} {kd : Nat → Nat × Nat} {I : Nat → Nat → Int32} {L : Nat → Nat → Int64} {Rf : Nat → Nat → Option Nat} {T : zT} {xs : Nat → Int32} {Φ : Option Value → eb_S → Prop} (hL : zL 138 kd I L Rf T H (f + 100)) (hx : I 1000060 = xs) (hkN : (kd 1000060).2 = N) (hk5 : 5 * k + 5 ≤ N) (hN : N ≤ 2560) (hH : H ≤ 800000000) (ih : zIH d k N sl kd xs H f Φ) : eb_P mL_law (d + 401) 1271 [(4, .int (nI (5 * k))), (3, .ref 137), (2, .ref 112), (1, .ref 0), (0, .ref 1000060)] [] (138, sl, kd, I, L, Rf) Φ := by
  obtain ⟨B0, hB0⟩ := hL.2.2.2
  refine ep_aload_n (i := 1) dL_law_1271 rfl rfl ?_
  refine ep_callV (i := 0) (M1 := mX10_asks) (rest := []) dL_law_1272 mlL_200 mvX10_asks rfl (Nat.le_of_ble_eq_true rfl) (hL.1.F.kc (by decide) rfl) (Nat.le_of_ble_eq_true rfl) rfl (z_clsQ (f := f) hL.2.1 hB0 (c_asks (d + 340) hL.1 hL.2.2.1 (by omega))) zpXc_ok ?_
  rintro _ _ ⟨rfl, I1, L1, R1, rfl, hC1, hM1, ⟨B1, hB1⟩, hx1⟩
  show eb_P _ _ 1275 [(4, .int (nI (5 * k))), (3, .ref 137), (2, .ref 112), (1, .ref 0), (0, .ref 1000060)] [.int ((s_asks T).1)] (138, sl, kd, I1, L1, R1) _
  replace hx1 : I1 1000060 = xs := hx1.trans hx
  refine ep_aload_n (i := 2) dL_law_1275 rfl rfl ?_
  refine ep_callV (i := 112) (M1 := mX11_asks) (rest := [.int ((s_asks T).1)]) dL_law_1276 mlL_203 mvX11_asks rfl (Nat.le_of_ble_eq_true rfl) (hC1.F.kc (by decide) rfl) (Nat.le_of_ble_eq_true rfl) rfl (z_refQ (f := f) hC1 hB1 (y_X11_asks (d + 0) hM1 hL.2.2.1 (by omega))) zpY_ok ?_
  rintro _ _ ⟨rfl, I2, L2, R2, rfl, hC2, hM2, hB2, h9, hx2⟩
  show eb_P _ _ 1279 [(4, .int (nI (5 * k))), (3, .ref 137), (2, .ref 112), (1, .ref 0), (0, .ref 1000060)] [.int ((s_asks T).1), .int ((s_asks T).1)] (138, sl, kd, I2, L2, R2) _
  replace hx2 : I2 1000060 = xs := hx2.trans hx1
  refine ep_icmp_eq (tgt := 1563) dL_law_1279 (by decide) (fun _ => ?_) (fun h => absurd rfl h)
  exact ih sl I2 L2 R2 _ (Nat.le_add_right _ _) (Nat.le_add_right _ _) ⟨hC2, hM2, (o_asks hL.2.2.1).le (by omega), hB2⟩ hx2
theorem lc_42 (d : Nat) {k N f H : Nat} {sl : Nat × Nat} {kd : Nat → Nat × Nat} {I : Nat → Nat → Int32} {L : Nat → Nat → Int64} {Rf : Nat → Nat → Option Nat} {T : zT} {xs : Nat → Int32} {Φ : Option Value → eb_S → Prop} (hL : zL 138 kd I L Rf T H (f + 100)) (hx : I 1000060 = xs) (hkN : (kd 1000060).2 = N) (hk5 : 5 * k + 5 ≤ N) (hN : N ≤ 2560) (hH : H ≤ 800000000) (ih : zIH d k N sl kd xs H f Φ) : eb_P mL_law (d + 401) 1284 [(4, .int (nI (5 * k))), (3, .ref 137), (2, .ref 112), (1, .ref 0), (0, .ref 1000060)] [] (138, sl, kd, I, L, Rf) Φ := by
  obtain ⟨B0, hB0⟩ := hL.2.2.2
  refine ep_aload_n (i := 1) dL_law_1284 rfl rfl ?_
  refine ep_aload_n (i := 0) dL_law_1285 rfl rfl ?_
  refine ep_iload (i := 4) dL_law_1286 rfl ?_
  refine ep_iconst (v := 1) dL_law_1288 (by decide) ?_
  refine ep_iadd dL_law_1289 ?_
  refine ep_topE (y := nI (5 * k + 1)) (nI_add _ _) ?_
  refine ep_xi dL_law_1290 (Or.inr rfl) hkN (vp_in_nI (by omega) (by omega)) ?_
  refine ep_topE (y := xs (5 * k + 1)) (by rw [nI_clamp (by omega)]; exact congrFun hx _) ?_
  refine ep_aload_n (i := 0) dL_law_1291 rfl rfl ?_
  refine ep_iload (i := 4) dL_law_1292 rfl ?_
  refine ep_iconst (v := 2) dL_law_1294 (by decide) ?_
  refine ep_iadd dL_law_1295 ?_
  refine ep_topE (y := nI (5 * k + 2)) (nI_add _ _) ?_
  refine ep_xi dL_law_1296 (Or.inr rfl) hkN (vp_in_nI (by omega) (by omega)) ?_
  refine ep_topE (y := xs (5 * k + 2)) (by rw [nI_clamp (by omega)]; exact congrFun hx _) ?_
  refine ep_callV (i := 0) (M1 := mX10_grave) (rest := []) dL_law_1297 mlL_204 mvX10_grave rfl (Nat.le_of_ble_eq_true rfl) (hL.1.F.kc (by decide) rfl) (Nat.le_of_ble_eq_true rfl) rfl (z_clsF (f := f) hL.2.1 hB0 (c_grave (d + 340) hL.1 hL.2.2.1 (by omega) (xs (5 * k + 1)) (xs (5 * k + 2)) f B0)) zpXc_ok ?_
  rintro _ _ ⟨rfl, I1, L1, R1, rfl, hC1, hM1, ⟨B1, hB1⟩, hx1⟩
  show eb_P _ _ 1300 [(4, .int (nI (5 * k))), (3, .ref 137), (2, .ref 112), (1, .ref 0), (0, .ref 1000060)] [.int ((s_grave T (xs (5 * k + 1)) (xs (5 * k + 2))).1)] (138, sl, kd, I1, L1, R1) _
  replace hx1 : I1 1000060 = xs := hx1.trans hx
  refine ep_aload_n (i := 2) dL_law_1300 rfl rfl ?_
  refine ep_aload_n (i := 0) dL_law_1301 rfl rfl ?_
  refine ep_iload (i := 4) dL_law_1302 rfl ?_
  refine ep_iconst (v := 1) dL_law_1304 (by decide) ?_
  refine ep_iadd dL_law_1305 ?_
  refine ep_topE (y := nI (5 * k + 1)) (nI_add _ _) ?_
  refine ep_xi dL_law_1306 (Or.inr rfl) hkN (vp_in_nI (by omega) (by omega)) ?_
  refine ep_topE (y := xs (5 * k + 1)) (by rw [nI_clamp (by omega)]; exact congrFun hx1 _) ?_
  refine ep_aload_n (i := 0) dL_law_1307 rfl rfl ?_
  refine ep_iload (i := 4) dL_law_1308 rfl ?_
  refine ep_iconst (v := 2) dL_law_1310 (by decide) ?_
  refine ep_iadd dL_law_1311 ?_
  refine ep_topE (y := nI (5 * k + 2)) (nI_add _ _) ?_
  refine ep_xi dL_law_1312 (Or.inr rfl) hkN (vp_in_nI (by omega) (by omega)) ?_
  refine ep_topE (y := xs (5 * k + 2)) (by rw [nI_clamp (by omega)]; exact congrFun hx1 _) ?_
  refine ep_callV (i := 112) (M1 := mX11_grave) (rest := [.int ((s_grave T (xs (5 * k + 1)) (xs (5 * k + 2))).1)]) dL_law_1313 mlL_207 mvX11_grave rfl (Nat.le_of_ble_eq_true rfl) (hC1.F.kc (by decide) rfl) (Nat.le_of_ble_eq_true rfl) rfl (z_refQ (f := f) hC1 hB1 (y_X11_grave (d + 0) hM1 hL.2.2.1 (by omega) (xs (5 * k + 1)) (xs (5 * k + 2)))) zpY_ok ?_
  rintro _ _ ⟨rfl, I2, L2, R2, rfl, hC2, hM2, hB2, h9, hx2⟩
  show eb_P _ _ 1316 [(4, .int (nI (5 * k))), (3, .ref 137), (2, .ref 112), (1, .ref 0), (0, .ref 1000060)] [.int ((s_grave T (xs (5 * k + 1)) (xs (5 * k + 2))).1), .int ((s_grave T (xs (5 * k + 1)) (xs (5 * k + 2))).1)] (138, sl, kd, I2, L2, R2) _
  replace hx2 : I2 1000060 = xs := hx2.trans hx1
  refine ep_icmp_eq (tgt := 1563) dL_law_1316 (by decide) (fun _ => ?_) (fun h => absurd rfl h)
  exact ih sl I2 L2 R2 _ (Nat.le_add_right _ _) (Nat.le_add_right _ _) ⟨hC2, hM2, (o_grave hL.2.2.1 (xs (5 * k + 1)) (xs (5 * k + 2))).le (by omega), hB2⟩ hx2
theorem lc_43 (d : Nat) {k N f H : Nat} {sl : Nat × Nat} {kd : Nat → Nat × Nat} {I : Nat → Nat → Int32} {L : Nat → Nat → Int64} {Rf : Nat → Nat → Option Nat} {T : zT} {xs : Nat → Int32} {Φ : Option Value → eb_S → Prop} (hL : zL 138 kd I L Rf T H (f + 100)) (hx : I 1000060 = xs) (hkN : (kd 1000060).2 = N) (hk5 : 5 * k + 5 ≤ N) (hN : N ≤ 2560) (hH : H ≤ 800000000) (ih : zIH d k N sl kd xs H f Φ) : eb_P mL_law (d + 401) 1321 [(4, .int (nI (5 * k))), (3, .ref 137), (2, .ref 112), (1, .ref 0), (0, .ref 1000060)] [] (138, sl, kd, I, L, Rf) Φ := by
  obtain ⟨B0, hB0⟩ := hL.2.2.2
  refine ep_aload_n (i := 1) dL_law_1321 rfl rfl ?_
  refine ep_aload_n (i := 0) dL_law_1322 rfl rfl ?_
  refine ep_iload (i := 4) dL_law_1323 rfl ?_
  refine ep_iconst (v := 1) dL_law_1325 (by decide) ?_
  refine ep_iadd dL_law_1326 ?_
  refine ep_topE (y := nI (5 * k + 1)) (nI_add _ _) ?_
  refine ep_xi dL_law_1327 (Or.inr rfl) hkN (vp_in_nI (by omega) (by omega)) ?_
  refine ep_topE (y := xs (5 * k + 1)) (by rw [nI_clamp (by omega)]; exact congrFun hx _) ?_
  refine ep_aload_n (i := 0) dL_law_1328 rfl rfl ?_
  refine ep_iload (i := 4) dL_law_1329 rfl ?_
  refine ep_iconst (v := 2) dL_law_1331 (by decide) ?_
  refine ep_iadd dL_law_1332 ?_
  refine ep_topE (y := nI (5 * k + 2)) (nI_add _ _) ?_
  refine ep_xi dL_law_1333 (Or.inr rfl) hkN (vp_in_nI (by omega) (by omega)) ?_
  refine ep_topE (y := xs (5 * k + 2)) (by rw [nI_clamp (by omega)]; exact congrFun hx _) ?_
  refine ep_callV (i := 0) (M1 := mX10_cake) (rest := []) dL_law_1334 mlL_208 mvX10_cake rfl (Nat.le_of_ble_eq_true rfl) (hL.1.F.kc (by decide) rfl) (Nat.le_of_ble_eq_true rfl) rfl (z_clsQ (f := f) hL.2.1 hB0 (c_cake (d + 340) hL.1 hL.2.2.1 (by omega) (xs (5 * k + 1)) (xs (5 * k + 2)))) zpXc_ok ?_
  rintro _ _ ⟨rfl, I1, L1, R1, rfl, hC1, hM1, ⟨B1, hB1⟩, hx1⟩
  show eb_P _ _ 1337 [(4, .int (nI (5 * k))), (3, .ref 137), (2, .ref 112), (1, .ref 0), (0, .ref 1000060)] [.int ((s_cake T (xs (5 * k + 1)) (xs (5 * k + 2))).1)] (138, sl, kd, I1, L1, R1) _
  replace hx1 : I1 1000060 = xs := hx1.trans hx
  refine ep_aload_n (i := 2) dL_law_1337 rfl rfl ?_
  refine ep_aload_n (i := 0) dL_law_1338 rfl rfl ?_
  refine ep_iload (i := 4) dL_law_1339 rfl ?_
  refine ep_iconst (v := 1) dL_law_1341 (by decide) ?_
  refine ep_iadd dL_law_1342 ?_
  refine ep_topE (y := nI (5 * k + 1)) (nI_add _ _) ?_
  refine ep_xi dL_law_1343 (Or.inr rfl) hkN (vp_in_nI (by omega) (by omega)) ?_
  refine ep_topE (y := xs (5 * k + 1)) (by rw [nI_clamp (by omega)]; exact congrFun hx1 _) ?_
  refine ep_aload_n (i := 0) dL_law_1344 rfl rfl ?_
  refine ep_iload (i := 4) dL_law_1345 rfl ?_
  refine ep_iconst (v := 2) dL_law_1347 (by decide) ?_
  refine ep_iadd dL_law_1348 ?_
  refine ep_topE (y := nI (5 * k + 2)) (nI_add _ _) ?_
  refine ep_xi dL_law_1349 (Or.inr rfl) hkN (vp_in_nI (by omega) (by omega)) ?_
  refine ep_topE (y := xs (5 * k + 2)) (by rw [nI_clamp (by omega)]; exact congrFun hx1 _) ?_
  refine ep_callV (i := 112) (M1 := mX11_cake) (rest := [.int ((s_cake T (xs (5 * k + 1)) (xs (5 * k + 2))).1)]) dL_law_1350 mlL_211 mvX11_cake rfl (Nat.le_of_ble_eq_true rfl) (hC1.F.kc (by decide) rfl) (Nat.le_of_ble_eq_true rfl) rfl (z_refQ (f := f) hC1 hB1 (y_X11_cake (d + 0) hM1 hL.2.2.1 (by omega) (xs (5 * k + 1)) (xs (5 * k + 2)))) zpY_ok ?_
  rintro _ _ ⟨rfl, I2, L2, R2, rfl, hC2, hM2, hB2, h9, hx2⟩
  show eb_P _ _ 1353 [(4, .int (nI (5 * k))), (3, .ref 137), (2, .ref 112), (1, .ref 0), (0, .ref 1000060)] [.int ((s_cake T (xs (5 * k + 1)) (xs (5 * k + 2))).1), .int ((s_cake T (xs (5 * k + 1)) (xs (5 * k + 2))).1)] (138, sl, kd, I2, L2, R2) _
  replace hx2 : I2 1000060 = xs := hx2.trans hx1
  refine ep_icmp_eq (tgt := 1563) dL_law_1353 (by decide) (fun _ => ?_) (fun h => absurd rfl h)
  exact ih sl I2 L2 R2 _ (Nat.le_add_right _ _) (Nat.le_add_right _ _) ⟨hC2, hM2, (o_cake hL.2.2.1 (xs (5 * k + 1)) (xs (5 * k + 2))).le (by omega), hB2⟩ hx2
theorem lc_44 (d : Nat) {k N f H : Nat} {sl : Nat × Nat} {kd : Nat → Nat × Nat} {I : Nat → Nat → Int32} {L : Nat → Nat → Int64} {Rf : Nat → Nat → Option Nat} {T : zT} {xs : Nat → Int32} {Φ : Option Value → eb_S → Prop} (hL : zL 138 kd I L Rf T H (f + 100)) (hx : I 1000060 = xs) (hkN : (kd 1000060).2 = N) (hk5 : 5 * k + 5 ≤ N) (hN : N ≤ 2560) (hH : H ≤ 800000000) (ih : zIH d k N sl kd xs H f Φ) : eb_P mL_law (d + 401) 1358 [(4, .int (nI (5 * k))), (3, .ref 137), (2, .ref 112), (1, .ref 0), (0, .ref 1000060)] [] (138, sl, kd, I, L, Rf) Φ := by
  obtain ⟨B0, hB0⟩ := hL.2.2.2
  refine ep_aload_n (i := 1) dL_law_1358 rfl rfl ?_
  refine ep_aload_n (i := 0) dL_law_1359 rfl rfl ?_
  refine ep_iload (i := 4) dL_law_1360 rfl ?_
  refine ep_iconst (v := 1) dL_law_1362 (by decide) ?_
  refine ep_iadd dL_law_1363 ?_
  refine ep_topE (y := nI (5 * k + 1)) (nI_add _ _) ?_
  refine ep_xi dL_law_1364 (Or.inr rfl) hkN (vp_in_nI (by omega) (by omega)) ?_
  refine ep_topE (y := xs (5 * k + 1)) (by rw [nI_clamp (by omega)]; exact congrFun hx _) ?_
  refine ep_callV (i := 0) (M1 := mX10_rests) (rest := []) dL_law_1365 mlL_212 mvX10_rests rfl (Nat.le_of_ble_eq_true rfl) (hL.1.F.kc (by decide) rfl) (Nat.le_of_ble_eq_true rfl) rfl (z_clsQ (f := f) hL.2.1 hB0 (c_rests (d + 340) hL.1 hL.2.2.1 (by omega) (xs (5 * k + 1)))) zpXc_ok ?_
  rintro _ _ ⟨rfl, I1, L1, R1, rfl, hC1, hM1, ⟨B1, hB1⟩, hx1⟩
  show eb_P _ _ 1368 [(4, .int (nI (5 * k))), (3, .ref 137), (2, .ref 112), (1, .ref 0), (0, .ref 1000060)] [.int ((s_rests T (xs (5 * k + 1))).1)] (138, sl, kd, I1, L1, R1) _
  replace hx1 : I1 1000060 = xs := hx1.trans hx
  refine ep_aload_n (i := 2) dL_law_1368 rfl rfl ?_
  refine ep_aload_n (i := 0) dL_law_1369 rfl rfl ?_
  refine ep_iload (i := 4) dL_law_1370 rfl ?_
  refine ep_iconst (v := 1) dL_law_1372 (by decide) ?_
  refine ep_iadd dL_law_1373 ?_
  refine ep_topE (y := nI (5 * k + 1)) (nI_add _ _) ?_
  refine ep_xi dL_law_1374 (Or.inr rfl) hkN (vp_in_nI (by omega) (by omega)) ?_
  refine ep_topE (y := xs (5 * k + 1)) (by rw [nI_clamp (by omega)]; exact congrFun hx1 _) ?_
  refine ep_callV (i := 112) (M1 := mX11_rests) (rest := [.int ((s_rests T (xs (5 * k + 1))).1)]) dL_law_1375 mlL_215 mvX11_rests rfl (Nat.le_of_ble_eq_true rfl) (hC1.F.kc (by decide) rfl) (Nat.le_of_ble_eq_true rfl) rfl (z_refQ (f := f) hC1 hB1 (y_X11_rests (d + 0) hM1 hL.2.2.1 (by omega) (xs (5 * k + 1)))) zpY_ok ?_
  rintro _ _ ⟨rfl, I2, L2, R2, rfl, hC2, hM2, hB2, h9, hx2⟩
  show eb_P _ _ 1378 [(4, .int (nI (5 * k))), (3, .ref 137), (2, .ref 112), (1, .ref 0), (0, .ref 1000060)] [.int ((s_rests T (xs (5 * k + 1))).1), .int ((s_rests T (xs (5 * k + 1))).1)] (138, sl, kd, I2, L2, R2) _
  replace hx2 : I2 1000060 = xs := hx2.trans hx1
  refine ep_icmp_eq (tgt := 1563) dL_law_1378 (by decide) (fun _ => ?_) (fun h => absurd rfl h)
  exact ih sl I2 L2 R2 _ (Nat.le_add_right _ _) (Nat.le_add_right _ _) ⟨hC2, hM2, (o_rests hL.2.2.1 (xs (5 * k + 1))).le (by omega), hB2⟩ hx2
theorem lc_45 (d : Nat) {k N f H : Nat} {sl : Nat × Nat} {kd : Nat → Nat × Nat} {I : Nat → Nat → Int32} {L : Nat → Nat → Int64} {Rf : Nat → Nat → Option Nat} {T : zT} {xs : Nat → Int32} {Φ : Option Value → eb_S → Prop} (hL : zL 138 kd I L Rf T H (f + 100)) (hx : I 1000060 = xs) (hkN : (kd 1000060).2 = N) (hk5 : 5 * k + 5 ≤ N) (hN : N ≤ 2560) (hH : H ≤ 800000000) (ih : zIH d k N sl kd xs H f Φ) : eb_P mL_law (d + 401) 1383 [(4, .int (nI (5 * k))), (3, .ref 137), (2, .ref 112), (1, .ref 0), (0, .ref 1000060)] [] (138, sl, kd, I, L, Rf) Φ := by
  obtain ⟨B0, hB0⟩ := hL.2.2.2
  refine ep_aload_n (i := 1) dL_law_1383 rfl rfl ?_
  refine ep_callV (i := 0) (M1 := mX10_law) (rest := []) dL_law_1384 mlL_216 mvX10_law rfl (Nat.le_of_ble_eq_true rfl) (hL.1.F.kc (by decide) rfl) (Nat.le_of_ble_eq_true rfl) rfl (z_clsF (f := f) hL.2.1 hB0 (c_law (d + 340) hL.1 hL.2.2.1 (by omega) f B0)) zpXc_ok ?_
  rintro _ _ ⟨rfl, I1, L1, R1, rfl, hC1, hM1, ⟨B1, hB1⟩, hx1⟩
  show eb_P _ _ 1387 [(4, .int (nI (5 * k))), (3, .ref 137), (2, .ref 112), (1, .ref 0), (0, .ref 1000060)] [.int ((s_law T).1)] (138, sl, kd, I1, L1, R1) _
  replace hx1 : I1 1000060 = xs := hx1.trans hx
  refine ep_aload_n (i := 2) dL_law_1387 rfl rfl ?_
  refine ep_callV (i := 112) (M1 := mX11_law) (rest := [.int ((s_law T).1)]) dL_law_1388 mlL_219 mvX11_law rfl (Nat.le_of_ble_eq_true rfl) (hC1.F.kc (by decide) rfl) (Nat.le_of_ble_eq_true rfl) rfl (z_refQ (f := f) hC1 hB1 (y_X11_law (d + 0) hM1 hL.2.2.1 (by omega))) zpY_ok ?_
  rintro _ _ ⟨rfl, I2, L2, R2, rfl, hC2, hM2, hB2, h9, hx2⟩
  show eb_P _ _ 1391 [(4, .int (nI (5 * k))), (3, .ref 137), (2, .ref 112), (1, .ref 0), (0, .ref 1000060)] [.int ((s_law T).1), .int ((s_law T).1)] (138, sl, kd, I2, L2, R2) _
  replace hx2 : I2 1000060 = xs := hx2.trans hx1
  refine ep_icmp_eq (tgt := 1563) dL_law_1391 (by decide) (fun _ => ?_) (fun h => absurd rfl h)
  exact ih sl I2 L2 R2 _ (Nat.le_add_right _ _) (Nat.le_add_right _ _) ⟨hC2, hM2, (o_law hL.2.2.1).le (by omega), hB2⟩ hx2
theorem lc_46 (d : Nat) {k N f H : Nat} {sl : Nat × Nat} {kd : Nat → Nat × Nat} {I : Nat → Nat → Int32} {L : Nat → Nat → Int64} {Rf : Nat → Nat → Option Nat} {T : zT} {xs : Nat → Int32} {Φ : Option Value → eb_S → Prop} (hL : zL 138 kd I L Rf T H (f + 100)) (hx : I 1000060 = xs) (hkN : (kd 1000060).2 = N) (hk5 : 5 * k + 5 ≤ N) (hN : N ≤ 2560) (hH : H ≤ 800000000) (ih : zIH d k N sl kd xs H f Φ) : eb_P mL_law (d + 401) 1396 [(4, .int (nI (5 * k))), (3, .ref 137), (2, .ref 112), (1, .ref 0), (0, .ref 1000060)] [] (138, sl, kd, I, L, Rf) Φ := by
  obtain ⟨B0, hB0⟩ := hL.2.2.2
  refine ep_aload_n (i := 1) dL_law_1396 rfl rfl ?_
  refine ep_aload_n (i := 0) dL_law_1397 rfl rfl ?_
  refine ep_iload (i := 4) dL_law_1398 rfl ?_
  refine ep_iconst (v := 1) dL_law_1400 (by decide) ?_
  refine ep_iadd dL_law_1401 ?_
  refine ep_topE (y := nI (5 * k + 1)) (nI_add _ _) ?_
  refine ep_xi dL_law_1402 (Or.inr rfl) hkN (vp_in_nI (by omega) (by omega)) ?_
  refine ep_topE (y := xs (5 * k + 1)) (by rw [nI_clamp (by omega)]; exact congrFun hx _) ?_
  refine ep_aload_n (i := 0) dL_law_1403 rfl rfl ?_
  refine ep_iload (i := 4) dL_law_1404 rfl ?_
  refine ep_iconst (v := 2) dL_law_1406 (by decide) ?_
  refine ep_iadd dL_law_1407 ?_
  refine ep_topE (y := nI (5 * k + 2)) (nI_add _ _) ?_
  refine ep_xi dL_law_1408 (Or.inr rfl) hkN (vp_in_nI (by omega) (by omega)) ?_
  refine ep_topE (y := xs (5 * k + 2)) (by rw [nI_clamp (by omega)]; exact congrFun hx _) ?_
  refine ep_callV (i := 0) (M1 := mX10_years) (rest := []) dL_law_1409 mlL_220 mvX10_years rfl (Nat.le_of_ble_eq_true rfl) (hL.1.F.kc (by decide) rfl) (Nat.le_of_ble_eq_true rfl) rfl (z_clsF (f := f) hL.2.1 hB0 (c_years (d + 340) hL.1 hL.2.2.1 (by omega) (xs (5 * k + 1)) (xs (5 * k + 2)) f B0)) zpXc_ok ?_
  rintro _ _ ⟨rfl, I1, L1, R1, rfl, hC1, hM1, ⟨B1, hB1⟩, hx1⟩
  show eb_P _ _ 1412 [(4, .int (nI (5 * k))), (3, .ref 137), (2, .ref 112), (1, .ref 0), (0, .ref 1000060)] [.int ((s_years T (xs (5 * k + 1)) (xs (5 * k + 2))).1)] (138, sl, kd, I1, L1, R1) _
  replace hx1 : I1 1000060 = xs := hx1.trans hx
  refine ep_aload_n (i := 2) dL_law_1412 rfl rfl ?_
  refine ep_aload_n (i := 0) dL_law_1413 rfl rfl ?_
  refine ep_iload (i := 4) dL_law_1414 rfl ?_
  refine ep_iconst (v := 1) dL_law_1416 (by decide) ?_
  refine ep_iadd dL_law_1417 ?_
  refine ep_topE (y := nI (5 * k + 1)) (nI_add _ _) ?_
  refine ep_xi dL_law_1418 (Or.inr rfl) hkN (vp_in_nI (by omega) (by omega)) ?_
  refine ep_topE (y := xs (5 * k + 1)) (by rw [nI_clamp (by omega)]; exact congrFun hx1 _) ?_
  refine ep_aload_n (i := 0) dL_law_1419 rfl rfl ?_
  refine ep_iload (i := 4) dL_law_1420 rfl ?_
  refine ep_iconst (v := 2) dL_law_1422 (by decide) ?_
  refine ep_iadd dL_law_1423 ?_
  refine ep_topE (y := nI (5 * k + 2)) (nI_add _ _) ?_
  refine ep_xi dL_law_1424 (Or.inr rfl) hkN (vp_in_nI (by omega) (by omega)) ?_
  refine ep_topE (y := xs (5 * k + 2)) (by rw [nI_clamp (by omega)]; exact congrFun hx1 _) ?_
  refine ep_callV (i := 112) (M1 := mX11_years) (rest := [.int ((s_years T (xs (5 * k + 1)) (xs (5 * k + 2))).1)]) dL_law_1425 mlL_223 mvX11_years rfl (Nat.le_of_ble_eq_true rfl) (hC1.F.kc (by decide) rfl) (Nat.le_of_ble_eq_true rfl) rfl (z_refQ (f := f) hC1 hB1 (y_X11_years (d + 0) hM1 hL.2.2.1 (by omega) (xs (5 * k + 1)) (xs (5 * k + 2)))) zpY_ok ?_
  rintro _ _ ⟨rfl, I2, L2, R2, rfl, hC2, hM2, hB2, h9, hx2⟩
  show eb_P _ _ 1428 [(4, .int (nI (5 * k))), (3, .ref 137), (2, .ref 112), (1, .ref 0), (0, .ref 1000060)] [.int ((s_years T (xs (5 * k + 1)) (xs (5 * k + 2))).1), .int ((s_years T (xs (5 * k + 1)) (xs (5 * k + 2))).1)] (138, sl, kd, I2, L2, R2) _
  replace hx2 : I2 1000060 = xs := hx2.trans hx1
  refine ep_icmp_eq (tgt := 1563) dL_law_1428 (by decide) (fun _ => ?_) (fun h => absurd rfl h)
  exact ih sl I2 L2 R2 _ (Nat.le_add_right _ _) (Nat.le_add_right _ _) ⟨hC2, hM2, (o_years hL.2.2.1 (xs (5 * k + 1)) (xs (5 * k + 2))).le (by omega), hB2⟩ hx2
theorem lc_47 (d : Nat) {k N f H : Nat} {sl : Nat × Nat} {kd : Nat → Nat × Nat} {I : Nat → Nat → Int32} {L : Nat → Nat → Int64} {Rf : Nat → Nat → Option Nat} {T : zT} {xs : Nat → Int32} {Φ : Option Value → eb_S → Prop} (hL : zL 138 kd I L Rf T H (f + 100)) (hx : I 1000060 = xs) (hkN : (kd 1000060).2 = N) (hk5 : 5 * k + 5 ≤ N) (hN : N ≤ 2560) (hH : H ≤ 800000000) (ih : zIH d k N sl kd xs H f Φ) : eb_P mL_law (d + 401) 1433 [(4, .int (nI (5 * k))), (3, .ref 137), (2, .ref 112), (1, .ref 0), (0, .ref 1000060)] [] (138, sl, kd, I, L, Rf) Φ := by
  obtain ⟨B0, hB0⟩ := hL.2.2.2
  refine ep_aload_n (i := 1) dL_law_1433 rfl rfl ?_
  refine ep_aload_n (i := 0) dL_law_1434 rfl rfl ?_
  refine ep_iload (i := 4) dL_law_1435 rfl ?_
  refine ep_iconst (v := 1) dL_law_1437 (by decide) ?_
  refine ep_iadd dL_law_1438 ?_
  refine ep_topE (y := nI (5 * k + 1)) (nI_add _ _) ?_
  refine ep_xi dL_law_1439 (Or.inr rfl) hkN (vp_in_nI (by omega) (by omega)) ?_
  refine ep_topE (y := xs (5 * k + 1)) (by rw [nI_clamp (by omega)]; exact congrFun hx _) ?_
  refine ep_callV (i := 0) (M1 := mX10_keep) (rest := []) dL_law_1440 mlL_224 mvX10_keep rfl (Nat.le_of_ble_eq_true rfl) (hL.1.F.kc (by decide) rfl) (Nat.le_of_ble_eq_true rfl) rfl (z_clsQ (f := f) hL.2.1 hB0 (c_keep (d + 340) hL.1 hL.2.2.1 (by omega) (xs (5 * k + 1)))) zpXc_ok ?_
  rintro _ _ ⟨rfl, I1, L1, R1, rfl, hC1, hM1, ⟨B1, hB1⟩, hx1⟩
  show eb_P _ _ 1443 [(4, .int (nI (5 * k))), (3, .ref 137), (2, .ref 112), (1, .ref 0), (0, .ref 1000060)] [.int ((s_keep T (xs (5 * k + 1))).1)] (138, sl, kd, I1, L1, R1) _
  replace hx1 : I1 1000060 = xs := hx1.trans hx
  refine ep_aload_n (i := 2) dL_law_1443 rfl rfl ?_
  refine ep_aload_n (i := 0) dL_law_1444 rfl rfl ?_
  refine ep_iload (i := 4) dL_law_1445 rfl ?_
  refine ep_iconst (v := 1) dL_law_1447 (by decide) ?_
  refine ep_iadd dL_law_1448 ?_
  refine ep_topE (y := nI (5 * k + 1)) (nI_add _ _) ?_
  refine ep_xi dL_law_1449 (Or.inr rfl) hkN (vp_in_nI (by omega) (by omega)) ?_
  refine ep_topE (y := xs (5 * k + 1)) (by rw [nI_clamp (by omega)]; exact congrFun hx1 _) ?_
  refine ep_callV (i := 112) (M1 := mX11_keep) (rest := [.int ((s_keep T (xs (5 * k + 1))).1)]) dL_law_1450 mlL_227 mvX11_keep rfl (Nat.le_of_ble_eq_true rfl) (hC1.F.kc (by decide) rfl) (Nat.le_of_ble_eq_true rfl) rfl (z_refQ (f := f) hC1 hB1 (y_X11_keep (d + 380) hM1 hL.2.2.1 (xs (5 * k + 1)))) zpY_ok ?_
  rintro _ _ ⟨rfl, I2, L2, R2, rfl, hC2, hM2, hB2, h9, hx2⟩
  show eb_P _ _ 1453 [(4, .int (nI (5 * k))), (3, .ref 137), (2, .ref 112), (1, .ref 0), (0, .ref 1000060)] [.int ((s_keep T (xs (5 * k + 1))).1), .int ((s_keep T (xs (5 * k + 1))).1)] (138, sl, kd, I2, L2, R2) _
  replace hx2 : I2 1000060 = xs := hx2.trans hx1
  refine ep_icmp_eq (tgt := 1563) dL_law_1453 (by decide) (fun _ => ?_) (fun h => absurd rfl h)
  exact ih sl I2 L2 R2 _ (Nat.le_add_right _ _) (Nat.le_add_right _ _) ⟨hC2, hM2, (o_keep hL.2.2.1 (xs (5 * k + 1))).le (by omega), hB2⟩ hx2
theorem lc_48 (d : Nat) {k N f H : Nat} {sl : Nat × Nat} {kd : Nat → Nat × Nat} {I : Nat → Nat → Int32} {L : Nat → Nat → Int64} {Rf : Nat → Nat → Option Nat} {T : zT} {xs : Nat → Int32} {Φ : Option Value → eb_S → Prop} (hL : zL 138 kd I L Rf T H (f + 100)) (hx : I 1000060 = xs) (hkN : (kd 1000060).2 = N) (hk5 : 5 * k + 5 ≤ N) (hN : N ≤ 2560) (hH : H ≤ 800000000) (ih : zIH d k N sl kd xs H f Φ) : eb_P mL_law (d + 401) 1458 [(4, .int (nI (5 * k))), (3, .ref 137), (2, .ref 112), (1, .ref 0), (0, .ref 1000060)] [] (138, sl, kd, I, L, Rf) Φ := by
  obtain ⟨B0, hB0⟩ := hL.2.2.2
  refine ep_aload_n (i := 1) dL_law_1458 rfl rfl ?_
  refine ep_aload_n (i := 0) dL_law_1459 rfl rfl ?_
  refine ep_iload (i := 4) dL_law_1460 rfl ?_
  refine ep_iconst (v := 1) dL_law_1462 (by decide) ?_
  refine ep_iadd dL_law_1463 ?_
  refine ep_topE (y := nI (5 * k + 1)) (nI_add _ _) ?_
  refine ep_xi dL_law_1464 (Or.inr rfl) hkN (vp_in_nI (by omega) (by omega)) ?_
  refine ep_topE (y := xs (5 * k + 1)) (by rw [nI_clamp (by omega)]; exact congrFun hx _) ?_
  refine ep_callV (i := 0) (M1 := mX10_again) (rest := []) dL_law_1465 mlL_228 mvX10_again rfl (Nat.le_of_ble_eq_true rfl) (hL.1.F.kc (by decide) rfl) (Nat.le_of_ble_eq_true rfl) rfl (z_clsQ (f := f) hL.2.1 hB0 (c_again (d + 340) hL.1 hL.2.2.1 (by omega) (xs (5 * k + 1)))) zpXc_ok ?_
  rintro _ _ ⟨rfl, I1, L1, R1, rfl, hC1, hM1, ⟨B1, hB1⟩, hx1⟩
  show eb_P _ _ 1468 [(4, .int (nI (5 * k))), (3, .ref 137), (2, .ref 112), (1, .ref 0), (0, .ref 1000060)] [.int ((s_again T (xs (5 * k + 1))).1)] (138, sl, kd, I1, L1, R1) _
  replace hx1 : I1 1000060 = xs := hx1.trans hx
  refine ep_aload_n (i := 2) dL_law_1468 rfl rfl ?_
  refine ep_aload_n (i := 0) dL_law_1469 rfl rfl ?_
  refine ep_iload (i := 4) dL_law_1470 rfl ?_
  refine ep_iconst (v := 1) dL_law_1472 (by decide) ?_
  refine ep_iadd dL_law_1473 ?_
  refine ep_topE (y := nI (5 * k + 1)) (nI_add _ _) ?_
  refine ep_xi dL_law_1474 (Or.inr rfl) hkN (vp_in_nI (by omega) (by omega)) ?_
  refine ep_topE (y := xs (5 * k + 1)) (by rw [nI_clamp (by omega)]; exact congrFun hx1 _) ?_
  refine ep_callV (i := 112) (M1 := mX11_again) (rest := [.int ((s_again T (xs (5 * k + 1))).1)]) dL_law_1475 mlL_231 mvX11_again rfl (Nat.le_of_ble_eq_true rfl) (hC1.F.kc (by decide) rfl) (Nat.le_of_ble_eq_true rfl) rfl (z_refQ (f := f) hC1 hB1 (y_X11_again (d + 380) hM1 hL.2.2.1 (xs (5 * k + 1)))) zpY_ok ?_
  rintro _ _ ⟨rfl, I2, L2, R2, rfl, hC2, hM2, hB2, h9, hx2⟩
  show eb_P _ _ 1478 [(4, .int (nI (5 * k))), (3, .ref 137), (2, .ref 112), (1, .ref 0), (0, .ref 1000060)] [.int ((s_again T (xs (5 * k + 1))).1), .int ((s_again T (xs (5 * k + 1))).1)] (138, sl, kd, I2, L2, R2) _
  replace hx2 : I2 1000060 = xs := hx2.trans hx1
  refine ep_icmp_eq (tgt := 1563) dL_law_1478 (by decide) (fun _ => ?_) (fun h => absurd rfl h)
  exact ih sl I2 L2 R2 _ (Nat.le_add_right _ _) (Nat.le_add_right _ _) ⟨hC2, hM2, (o_again hL.2.2.1 (xs (5 * k + 1))).le (by omega), hB2⟩ hx2
theorem lc_49 (d : Nat) {k N f H : Nat} {sl : Nat × Nat} {kd : Nat → Nat × Nat} {I : Nat → Nat → Int32} {L : Nat → Nat → Int64} {Rf : Nat → Nat → Option Nat} {T : zT} {xs : Nat → Int32} {Φ : Option Value → eb_S → Prop} (hL : zL 138 kd I L Rf T H (f + 100)) (hx : I 1000060 = xs) (hkN : (kd 1000060).2 = N) (hk5 : 5 * k + 5 ≤ N) (hN : N ≤ 2560) (hH : H ≤ 800000000) (ih : zIH d k N sl kd xs H f Φ) : eb_P mL_law (d + 401) 1483 [(4, .int (nI (5 * k))), (3, .ref 137), (2, .ref 112), (1, .ref 0), (0, .ref 1000060)] [] (138, sl, kd, I, L, Rf) Φ := by
  obtain ⟨B0, hB0⟩ := hL.2.2.2
  refine ep_aload_n (i := 1) dL_law_1483 rfl rfl ?_
  refine ep_aload_n (i := 0) dL_law_1484 rfl rfl ?_
  refine ep_iload (i := 4) dL_law_1485 rfl ?_
  refine ep_iconst (v := 1) dL_law_1487 (by decide) ?_
  refine ep_iadd dL_law_1488 ?_
  refine ep_topE (y := nI (5 * k + 1)) (nI_add _ _) ?_
  refine ep_xi dL_law_1489 (Or.inr rfl) hkN (vp_in_nI (by omega) (by omega)) ?_
  refine ep_topE (y := xs (5 * k + 1)) (by rw [nI_clamp (by omega)]; exact congrFun hx _) ?_
  refine ep_callV (i := 0) (M1 := mX10_count) (rest := []) dL_law_1490 mlL_232 mvX10_count rfl (Nat.le_of_ble_eq_true rfl) (hL.1.F.kc (by decide) rfl) (Nat.le_of_ble_eq_true rfl) rfl (z_clsQ (f := f) hL.2.1 hB0 (c_count (d + 340) hL.1 hL.2.2.1 (by omega) (xs (5 * k + 1)))) zpXc_ok ?_
  rintro _ _ ⟨rfl, I1, L1, R1, rfl, hC1, hM1, ⟨B1, hB1⟩, hx1⟩
  show eb_P _ _ 1493 [(4, .int (nI (5 * k))), (3, .ref 137), (2, .ref 112), (1, .ref 0), (0, .ref 1000060)] [.int ((s_count T (xs (5 * k + 1))).1)] (138, sl, kd, I1, L1, R1) _
  replace hx1 : I1 1000060 = xs := hx1.trans hx
  refine ep_aload_n (i := 2) dL_law_1493 rfl rfl ?_
  refine ep_aload_n (i := 0) dL_law_1494 rfl rfl ?_
  refine ep_iload (i := 4) dL_law_1495 rfl ?_
  refine ep_iconst (v := 1) dL_law_1497 (by decide) ?_
  refine ep_iadd dL_law_1498 ?_
  refine ep_topE (y := nI (5 * k + 1)) (nI_add _ _) ?_
  refine ep_xi dL_law_1499 (Or.inr rfl) hkN (vp_in_nI (by omega) (by omega)) ?_
  refine ep_topE (y := xs (5 * k + 1)) (by rw [nI_clamp (by omega)]; exact congrFun hx1 _) ?_
  refine ep_callV (i := 112) (M1 := mX11_count) (rest := [.int ((s_count T (xs (5 * k + 1))).1)]) dL_law_1500 mlL_235 mvX11_count rfl (Nat.le_of_ble_eq_true rfl) (hC1.F.kc (by decide) rfl) (Nat.le_of_ble_eq_true rfl) rfl (z_refQ (f := f) hC1 hB1 (y_X11_count (d + 0) hM1 hL.2.2.1 (by omega) (xs (5 * k + 1)))) zpY_ok ?_
  rintro _ _ ⟨rfl, I2, L2, R2, rfl, hC2, hM2, hB2, h9, hx2⟩
  show eb_P _ _ 1503 [(4, .int (nI (5 * k))), (3, .ref 137), (2, .ref 112), (1, .ref 0), (0, .ref 1000060)] [.int ((s_count T (xs (5 * k + 1))).1), .int ((s_count T (xs (5 * k + 1))).1)] (138, sl, kd, I2, L2, R2) _
  replace hx2 : I2 1000060 = xs := hx2.trans hx1
  refine ep_icmp_eq (tgt := 1563) dL_law_1503 (by decide) (fun _ => ?_) (fun h => absurd rfl h)
  exact ih sl I2 L2 R2 _ (Nat.le_add_right _ _) (Nat.le_add_right _ _) ⟨hC2, hM2, (o_count hL.2.2.1 (xs (5 * k + 1))).le (by omega), hB2⟩ hx2
