/-! the class reads texts: thoughts, winds -/
theorem z_fst_cg {bad bad2 : Nat → Prop} {N : Nat} {r : Int32} (h : ∀ p, p < N → (bad p ↔ bad2 p)) (g : z_fst bad N r) : z_fst bad2 N r := by
  rcases g with ⟨p, h1, h2, h3, h4⟩ | ⟨h1, h2⟩
  · exact Or.inl ⟨p, h1, (h p h1).1 h2, fun q hq g => h3 q hq ((h q (by omega)).2 g), h4⟩
  · exact Or.inr ⟨fun p hp g => h1 p hp ((h p hp).2 g), h2⟩
theorem z_bad_cg {t t2 : Nat → Int32} {f mm p : Nat} (h : t p = t2 p) : z_bad t f mm p ↔ z_bad t2 f mm p := by unfold z_bad; rw [h]
theorem z_thf_cg {t t2 : Nat → Int32} {m : Nat} {r : Int32} (h : ∀ k, k < m → t k = t2 k) (g : z_thf t m r) : z_thf t2 m r := by
  obtain ⟨x, h1, h2⟩ := g; exact ⟨x, z_fst_cg (fun p hp => z_bad_cg (h p hp)) h1, h2⟩
theorem z_wif_cg {t t2 : Nat → Int32} {m : Nat} {r : Int32} (h : ∀ k, k < m → t k = t2 k) (g : z_wif t m r) : z_wif t2 m r := by
  obtain ⟨x, h1, h2⟩ := g; exact ⟨x, z_fst_cg (fun p hp => z_bad_cg (h p hp)) h1, h2⟩
theorem z_brf_cg {t t2 : Nat → Int32} {m c : Nat} {r : Int32} (h : ∀ k, k < m → t k = t2 k) (g : z_brf t m c r) : z_brf t2 m c r := by
  obtain ⟨x, h1, h2⟩ := g; exact ⟨x, z_fst_cg (fun p hp => z_bad_cg (h p hp)) h1, h2⟩
theorem z_wf_cg {t t2 : Nat → Int32} {m : Nat} (h : ∀ k, k < m → t k = t2 k) : ∀ k, k ≤ m → z_wf t k = z_wf t2 k
  | 0, _ => rfl
  | k + 1, hk => by rw [z_wf, z_wf, z_wf_cg h k (by omega), h k (by omega)]
theorem z_waf_cg {t t2 : Nat → Int32} {m : Nat} {r : Int32} (h : ∀ k, k < m → t k = t2 k) (g : z_waf t m r) : z_waf t2 m r := by
  obtain ⟨x, h1, h2⟩ := g
  refine ⟨x, z_fst_cg (fun p hp => ?_) h1, by rw [h2, z_wf_cg h m (Nat.le_refl _)]⟩
  unfold z_wbad z_wq
  rw [z_wf_cg h p (by omega), h p hp]
theorem k_thoughts_f {n : Nat} {sl : Nat × Nat} {kd : Nat → Nat × Nat} {I : Nat → Nat → Int32} {L : Nat → Nat → Int64} {Rf : Nat → Nat → Option Nat} (d : Nat) {T : zT} {H : Nat} (hC : zC n kd I L Rf T) (hO : zOk H T) : zq mX9_thoughtsFault (d + 5) [.ref 1] (n, sl, kd, I, L, Rf) (eb_rq (fun v => z_thf T.tt T.tx.length v) (n, sl, kd, I, L, Rf)) := by
  intro f B I7 R7 h7
  have e1 : I7 1 = I 1 := h7.cell (c := 1) (by unfold znc; omega)
  have e2 : I7 2 = I 2 := h7.cell (c := 2) (by unfold znc; omega)
  refine (q_X9_thoughtsFault (I := I7) d ((hC.F.tr h7.2.1).txt) (m := T.tx.length) (by rw [e1]; exact hC.tx.1) hO.txl).to ?_
  rintro _ _ ⟨rfl, v, rfl, hv⟩
  exact ⟨_, _, B, rfl, h7, rfl, v, rfl, z_thf_cg (fun k hk => by rw [show I7 (1 + 1) = I 2 from e2]; exact hC.tx.2 k hk) hv⟩
theorem k_winds_f {n : Nat} {sl : Nat × Nat} {kd : Nat → Nat × Nat} {I : Nat → Nat → Int32} {L : Nat → Nat → Int64} {Rf : Nat → Nat → Option Nat} (d : Nat) {T : zT} {H : Nat} (hC : zC n kd I L Rf T) (hO : zOk H T) : zq mX9_windsFault (d + 5) [.ref 1] (n, sl, kd, I, L, Rf) (eb_rq (fun v => z_wif T.tt T.tx.length v) (n, sl, kd, I, L, Rf)) := by
  intro f B I7 R7 h7
  have e1 : I7 1 = I 1 := h7.cell (c := 1) (by unfold znc; omega)
  have e2 : I7 2 = I 2 := h7.cell (c := 2) (by unfold znc; omega)
  refine (q_X9_windsFault (I := I7) d ((hC.F.tr h7.2.1).txt) (m := T.tx.length) (by rw [e1]; exact hC.tx.1) hO.txl).to ?_
  rintro _ _ ⟨rfl, v, rfl, hv⟩
  exact ⟨_, _, B, rfl, h7, rfl, v, rfl, z_wif_cg (fun k hk => by rw [show I7 (1 + 1) = I 2 from e2]; exact hC.tx.2 k hk) hv⟩
theorem k_watch_f {n : Nat} {sl : Nat × Nat} {kd : Nat → Nat × Nat} {I : Nat → Nat → Int32} {L : Nat → Nat → Int64} {Rf : Nat → Nat → Option Nat} (d : Nat) {T : zT} {H : Nat} (hC : zC n kd I L Rf T) (hO : zOk H T) : zq mX9_watchFault (d + 5) [.ref 1] (n, sl, kd, I, L, Rf) (eb_rq (fun v => z_waf T.tt T.tx.length v) (n, sl, kd, I, L, Rf)) := by
  intro f B I7 R7 h7
  have e1 : I7 1 = I 1 := h7.cell (c := 1) (by unfold znc; omega)
  have e2 : I7 2 = I 2 := h7.cell (c := 2) (by unfold znc; omega)
  refine (q_X9_watchFault (I := I7) (d + 1) ((hC.F.tr h7.2.1).txt) (m := T.tx.length) (by rw [e1]; exact hC.tx.1) hO.txl).to ?_
  rintro _ _ ⟨rfl, v, rfl, hv⟩
  exact ⟨_, _, B, rfl, h7, rfl, v, rfl, z_waf_cg (fun k hk => by rw [show I7 (1 + 1) = I 2 from e2]; exact hC.tx.2 k hk) hv⟩
theorem k_brothers_f {n : Nat} {sl : Nat × Nat} {kd : Nat → Nat × Nat} {I : Nat → Nat → Int32} {L : Nat → Nat → Int64} {Rf : Nat → Nat → Option Nat} (d : Nat) {T : zT} {H : Nat} (hC : zC n kd I L Rf T) (hO : zOk H T) : zq mX9_brothersFault (d + 5) [.ref 1, .int (nI T.c)] (n, sl, kd, I, L, Rf) (eb_rq (fun v => z_brf T.tt T.tx.length T.c v) (n, sl, kd, I, L, Rf)) := by
  intro f B I7 R7 h7
  have e1 : I7 1 = I 1 := h7.cell (c := 1) (by unfold znc; omega)
  have e2 : I7 2 = I 2 := h7.cell (c := 2) (by unfold znc; omega)
  refine (q_X9_brothersFault (I := I7) d ((hC.F.tr h7.2.1).txt) (m := T.tx.length) (by rw [e1]; exact hC.tx.1) hO.txl hO.c).to ?_
  rintro _ _ ⟨rfl, v, rfl, hv⟩
  exact ⟨_, _, B, rfl, h7, rfl, v, rfl, z_brf_cg (fun k hk => by rw [show I7 (1 + 1) = I 2 from e2]; exact hC.tx.2 k hk) hv⟩
theorem z_thf_m1 {t : Nat → Int32} {m : Nat} (hm : m ≤ 80) (h : z_thf t m (-1)) : m = 6 := by
  obtain ⟨x, h1, h2⟩ := h
  by_cases e : x = -1 ∧ m < 6
  · rw [if_pos e] at h2; exact absurd h2.symm (nI_nm1 m (by omega))
  · rw [if_neg e] at h2
    rcases h1 with ⟨p, _, _, _, h6⟩ | ⟨h3, _⟩
    · rw [← h2] at h6; exact absurd h6.symm (nI_nm1 p (by omega))
    · have h7 : ¬ m < 6 := fun g => e ⟨h2.symm, g⟩
      rcases Nat.lt_or_ge 6 m with g | g
      · exact absurd (Or.inl rfl) (h3 6 g)
      · omega
theorem z_wif_m1 {t : Nat → Int32} {m : Nat} (hm : m ≤ 80) (h : z_wif t m (-1)) : ¬ m = 0 ∧ m % 2 = 0 ∧ m ≤ 40 := by
  obtain ⟨x, h1, h2⟩ := h
  by_cases e : x = -1 ∧ (m = 0 ∨ m % 2 = 1)
  · rw [if_pos e] at h2; exact absurd h2.symm (nI_nm1 m (by omega))
  · rw [if_neg e] at h2
    rcases h1 with ⟨p, _, _, _, h6⟩ | ⟨h3, _⟩
    · rw [← h2] at h6; exact absurd h6.symm (nI_nm1 p (by omega))
    · have h7 : ¬ (m = 0 ∨ m % 2 = 1) := fun g => e ⟨h2.symm, g⟩
      rcases Nat.lt_or_ge 40 m with g | g
      · exact absurd (Or.inl rfl) (h3 40 g)
      · omega
/-- an answer and cells -/
def zpI (n : Nat) (sl : Nat × Nat) (kd : Nat → Nat × Nat) (L : Nat → Nat → Int64) (Rf : Nat → Nat → Option Nat) (v : Int32) (P : (Nat → Nat → Int32) → Prop) : Option Value → eb_S → Prop := fun r τ => r = some (.int v) ∧ ∃ I1, τ = (n, sl, kd, I1, L, Rf) ∧ P I1
theorem zpI_ok {n : Nat} {sl : Nat × Nat} {kd : Nat → Nat × Nat} {L : Nat → Nat → Int64} {Rf : Nat → Nat → Option Nat} {v : Int32} {P : (Nat → Nat → Int32) → Prop} {l : List (Nat × Value)} {rest : List Value} : ∀ r1 σ1, zpI n sl kd L Rf v P r1 σ1 → σ1.1 = n ∨ ((∀ q ∈ l, eb_okv n q.2) ∧ ∀ v ∈ rest, eb_okv n v) := fun _ _ h => Or.inl (by obtain ⟨_, I1, h, _⟩ := h; rw [h])
theorem zC.sea {n : Nat} {kd : Nat → Nat × Nat} {I I1 : Nat → Nat → Int32} {L : Nat → Nat → Int64} {Rf : Nat → Nat → Option Nat} {T : zT} (h : zC n kd I L Rf T) {pr wd : Nat → Int32} {wm : Nat} (hp : ∀ t, t < 6 → I1 6 t = pr t) (hm : I1 5 2 = nI wm) (hw : ∀ k, k < wm → I1 7 k = wd k) (hI : ∀ c, c < 5 ∨ 7 < c → I1 c = I c) : zC n kd I1 L Rf (((T.w_pr pr).w_wm wm).w_wd wd) := by
  obtain ⟨a, hS, hu⟩ := h.S
  have ha := hS.2.2
  have hL : L 4 = L 4 := rfl
  exact ⟨h.F, ⟨a, hS, hu.cg (hI a (by omega)) (hI (a + 1) (by omega))⟩, h.tx.cg (hI 1 (by omega)) (hI 2 (by omega)), h.rw.cg (hI 3 (by omega)) hL, hp, hm, hw, h.sh.cg (hI 21 (by omega)) (hI 22 (by omega)) (hI 23 (by omega)) (hI 24 (by omega)), h.un.cg (fun c h1 h2 => hI c (by omega)), h.kp.cg (fun c h1 h2 => hI c (by omega)), h.sn.cg (fun c h1 h2 => hI c (by omega)), h.hd.cg (fun c h1 h2 => hI c (by omega)), h.ch, (by rw [hI 1000050 (by omega)]; exact h.hm)⟩
theorem k_takePrices {n : Nat} {sl : Nat × Nat} {kd : Nat → Nat × Nat} {I : Nat → Nat → Int32} {L : Nat → Nat → Int64} {Rf : Nat → Nat → Option Nat} (d : Nat) {T : zT} {H : Nat} (hC : zC n kd I L Rf T) (hO : zOk H T) (h6 : T.tx.length = 6) : zq mX6_takePrices (d + 20) [.ref 5, .ref 1] (n, sl, kd, I, L, Rf) (zpI n sl kd L Rf (z_sum (ztp T) 6) (fun I1 => (∀ t, t < 6 → I1 6 t = ztp T t) ∧ ∀ c, c < 6 ∨ 6 < c → I1 c = I c)) := by
  intro f B
  refine ez_meth pn_X.2.2.2.2.2.2.1 (Nat.le_of_ble_eq_true rfl) ?_
  have hF := hC.F; have hx8 := hO.txl
  show ez_P _ _ _ _ _ _ 0 [(0, .ref 5), (1, .ref 1)] [] (n, sl, kd, I, L, Rf) _
  refine ez_iconst (v := 0) dX6_takePrices_0 (by decide) ?_
  refine ez_istore_n (l' := [(2, .int 0), (0, .ref 5), (1, .ref 1)]) dX6_takePrices_1 rfl (by decide) rfl ?_
  refine ez_iconst (v := 0) dX6_takePrices_2 (by decide) ?_
  refine ez_istore_n (l' := [(3, .int 0), (2, .int 0), (0, .ref 5), (1, .ref 1)]) dX6_takePrices_3 rfl (by decide) rfl ?_
  refine ez_eq (l2 := [(3, .int (nI 0)), (2, .int 0), (0, .ref 5), (1, .ref 1)]) (σ2 := (n, sl, kd, I, L, Rf)) rfl (by rw [nI_0]) rfl rfl ?_
  refine ez_for 6 (fun k (a : (Nat → Nat → Int32) × Int32) => ([(3, .int (nI k)), (2, .int a.2), (0, .ref 5), (1, .ref 1)], (n, sl, kd, a.1, L, Rf))) (fun k a => (∀ c, c < 6 ∨ 6 < c → a.1 c = I c) ∧ (∀ q, q < k → a.1 6 q = ztp T q) ∧ a.2 = z_sum (ztp T) k) ?_ ?_ 6 0 (I, 0) (by omega) ⟨fun _ _ => rfl, fun q hq => absurd hq (Nat.not_lt_zero q), rfl⟩
  · rintro k ⟨Ia, su⟩ hk ⟨hIa, hKb, hsu⟩ ih
    replace hIa : ∀ c, c < 6 ∨ 6 < c → Ia c = I c := hIa; replace hKb : ∀ q, q < k → Ia 6 q = ztp T q := hKb; replace hsu : su = z_sum (ztp T) k := hsu
    show ez_P _ _ _ _ _ _ 4 [(3, .int (nI k)), (2, .int su), (0, .ref 5), (1, .ref 1)] [] (n, sl, kd, Ia, L, Rf) _
    refine ez_iload_n (i := 3) dX6_takePrices_4 rfl rfl ?_
    refine ez_bipush (v := 6) dX6_takePrices_5 (by decide) ?_
    refine ez_icmp_ge (tgt := 36) dX6_takePrices_7 (by decide) (fun c1 => absurd c1 (nI_ge (b := 6) hk (by decide))) (fun c1 => ?_)
    refine ez_aload_n (i := 0) dX6_takePrices_10 rfl rfl ?_
    refine ez_getR dX6_takePrices_11 flX6_9 (hF.lt (by decide)) (hF.kc (by decide) rfl) (hF.pt 5 rfl) ?_
    refine ez_iload_n (i := 3) dX6_takePrices_14 rfl rfl ?_
    refine ez_aload_n (i := 1) dX6_takePrices_15 rfl rfl ?_
    refine ez_iload_n (i := 3) dX6_takePrices_16 rfl rfl ?_
    refine ez_callV (M1 := mX9_digit) (rest := [.int (nI k), .ref 6]) dX6_takePrices_17 mlX6_41 mvX9_digit rfl (hF.lt (by decide)) (hF.kc (by decide) rfl) (Nat.le_of_ble_eq_true rfl) rfl (y_X9_digit (I := Ia) (L := L) (d + 18) hF.txt rfl (m := T.tx.length) (by rw [hIa 1 (by omega)]; exact hC.tx.1) hO.txl (k := k) (by omega)) eb_rok ?_
    rintro _ _ ⟨rfl, rfl⟩
    show ez_P _ _ _ _ _ _ 20 [(3, .int (nI k)), (2, .int su), (0, .ref 5), (1, .ref 1)] (.int (Ia 2 k - 48) :: [.int (nI k), .ref 6]) _ _
    refine ez_topE (y := ztp T k) (by rw [hIa 2 (by omega), hC.tx.2 k (by omega)]) ?_
    refine ez_isN (k := k) dX6_takePrices_20 (hF.lt (by decide)) (hF.lx (by decide)) (hF.ka (by decide) rfl) (by omega) (by decide) ?_
    refine ez_nmI (fun I2 hI2 => ?_)
    refine ez_iload_n (i := 2) dX6_takePrices_21 rfl rfl ?_
    refine ez_aload_n (i := 0) dX6_takePrices_22 rfl rfl ?_
    refine ez_getR dX6_takePrices_23 flX6_9 (hF.lt (by decide)) (hF.kc (by decide) rfl) (hF.pt 5 rfl) ?_
    refine ez_iload_n (i := 3) dX6_takePrices_26 rfl rfl ?_
    refine ez_iaN (k := k) dX6_takePrices_27 (hF.lt (by decide)) (hF.ka (by decide) rfl) (by omega) (by decide) ?_
    refine ez_topE (y := ztp T k) (by rw [hI2, z_set_at]) ?_
    refine ez_iadd dX6_takePrices_28 ?_
    refine ez_istore_n (l' := [(2, .int (su + (ztp T k))), (3, .int (nI k)), (0, .ref 5), (1, .ref 1)]) dX6_takePrices_29 rfl (by decide) rfl ?_
    refine ez_iinc (v := (nI (k + 1))) (l' := [(3, .int ((nI (k + 1)))), (2, .int (su + (ztp T k))), (0, .ref 5), (1, .ref 1)]) dX6_takePrices_30 rfl (nI_1 _) (by decide) rfl ?_
    refine ez_goto (tgt := 4) dX6_takePrices_33 (by decide) ?_
    exact ez_eq (l2 := [(3, .int (nI (k + 1))), (2, .int (su + (ztp T k))), (0, .ref 5), (1, .ref 1)]) rfl rfl rfl rfl (ih (I2, su + (ztp T k)) ⟨fun c hc => by show I2 c = _; rw [hI2, z_set_ne (by omega)]; exact hIa c hc, fun q hq => by show I2 6 q = _; rw [hI2]; by_cases e : q = k; rw [e, z_set_at]; rw [z_set_nk e]; exact hKb q (by omega), by show su + (ztp T k) = z_sum (ztp T) (k + 1); rw [z_sum, ← hsu]⟩)
  · rintro ⟨Ia, su⟩ ⟨hIa, hKb, hsu⟩
    replace hIa : ∀ c, c < 6 ∨ 6 < c → Ia c = I c := hIa; replace hKb : ∀ q, q < 6 → Ia 6 q = ztp T q := hKb; replace hsu : su = z_sum (ztp T) 6 := hsu
    show ez_P _ _ _ _ _ _ 4 [(3, .int (nI 6)), (2, .int su), (0, .ref 5), (1, .ref 1)] [] (n, sl, kd, Ia, L, Rf) _
    refine ez_iload_n (i := 3) dX6_takePrices_4 rfl rfl ?_
    refine ez_bipush (v := 6) dX6_takePrices_5 (by decide) ?_
    refine ez_icmp_ge (tgt := 36) dX6_takePrices_7 (by decide) (fun c3 => ?_) (fun c3 => absurd (by decide) c3)
    refine ez_iload_n (i := 2) dX6_takePrices_36 rfl rfl ?_
    refine ez_iret dX6_takePrices_37 rfl rfl ?_
    exact ⟨by rw [show su = z_sum (ztp T) 6 from hsu], Ia, rfl, hKb, hIa⟩
theorem zK.sea {n : Nat} {kd : Nat → Nat × Nat} {I0 I1 I g : Nat → Nat → Int32} {L0 L : Nat → Nat → Int64} {R0 Rf : Nat → Nat → Option Nat} {T : zT} {G Bf : Option (Nat → Int32)} {w : Bool} (h : zK n kd I0 L0 R0 g I L Rf T G Bf w) {pr wd : Nat → Int32} {wm : Nat} (hp : ∀ t, t < 6 → I1 6 t = pr t) (hm : I1 5 2 = nI wm) (hw : ∀ k, k < wm → I1 7 k = wd k) (hI : ∀ c, c < 5 ∨ 7 < c → I1 c = I c) : zK n kd I0 L0 R0 g I1 L Rf (((T.w_pr pr).w_wm wm).w_wd wd) G Bf false := ⟨h.C.sea hp hm hw hI, fun x e => (h.gs x e).cg (hI _ (by omega)) (hI _ (by omega)) (hI _ (by omega)) (hI _ (by omega)), fun x e => (h.bf x e).cg (hI _ (by omega)) (hI _ (by omega)) (hI _ (by omega)) (hI _ (by omega)), fun e => (nomatch e), fun c hc => ⟨(hI c (by omega)).trans (h.f c hc).1, (h.f c hc).2⟩, fun c hc => by rw [hI c (by unfold zgk at hc; omega)]; exact h.g c hc⟩
theorem c_thoughts {n : Nat} {sl : Nat × Nat} {kd : Nat → Nat × Nat} {I : Nat → Nat → Int32} {L : Nat → Nat → Int64} {Rf : Nat → Nat → Option Nat} (d : Nat) {T : zT} {H : Nat} (hC : zC n kd I L Rf T) (hO : zOk H T) (hH : H ≤ 1000000000) : zq mX10_thoughts (d + 60) [.ref 0] (n, sl, kd, I, L, Rf) (zpC n sl kd I L Rf (some (.int (s_thoughts T).1)) (s_thoughts T).2) := by
  have hF := hC.F; have hc7 := hO.c
  have hK0 : zK n kd I L Rf I I L Rf T none none false := zK.start hC
  intro f B
  refine ez_meth pn_X.2.2.2.2.2.2.2.2.2.2.1 (Nat.le_of_ble_eq_true rfl) ?_
  show ez_P _ _ _ _ _ _ 0 [(0, .ref 0)] [] (n, sl, kd, I, L, Rf) _
  refine ez_aload_n (i := 0) dX10_thoughts_0 rfl rfl ?_
  refine ez_getR dX10_thoughts_1 flX10_10 (hF.lt (by decide)) (hF.kc (by decide) rfl) (hF.pt 1 rfl) ?_
  refine ez_callV (M1 := mX9_thoughtsFault) (rest := []) dX10_thoughts_4 mlX10_115 mvX9_thoughtsFault rfl (hF.lt (by decide)) (hF.kc (by decide) rfl) (Nat.le_of_ble_eq_true rfl) rfl (k_thoughts_f (I := I) (L := L) (d + 54) hC hO) eb_rqok ?_
  rintro _ _ ⟨rfl, fv, rfl, hfv⟩
  show ez_P _ _ _ _ _ _ 7 [(0, .ref 0)] (.int fv :: []) (n, sl, kd, I, L, Rf) _
  refine ez_istore_n (l' := [(1, .int fv), (0, .ref 0)]) dX10_thoughts_7 rfl (by decide) rfl ?_
  refine ez_iload_n (i := 1) dX10_thoughts_8 rfl rfl ?_
  refine ez_iconst (v := (-1)) dX10_thoughts_9 (by decide) ?_
  refine ez_icmp_ne (tgt := 27) dX10_thoughts_10 (by decide) (fun c1 => ?_) (fun c1 => ?_)
  · skip
    refine ez_iconst (v := (-1)) dX10_thoughts_27 (by decide) ?_
    refine ez_iload_n (i := 1) dX10_thoughts_28 rfl rfl ?_
    refine ez_isub dX10_thoughts_29 ?_
    refine ez_istore_n (l' := [(2, .int ((-1) - fv)), (1, .int fv), (0, .ref 0)]) dX10_thoughts_30 rfl (by decide) rfl ?_
    refine ez_aload_n (i := 0) dX10_thoughts_31 rfl rfl ?_
    refine ez_getR dX10_thoughts_32 flX10_10 (hF.lt (by decide)) (hF.kc (by decide) rfl) (hF.pt 1 rfl) ?_
    refine ez_callV (M1 := mX9_empty) (rest := []) dX10_thoughts_35 mlX10_123 mvX9_empty rfl (hF.lt (by decide)) (hF.kc (by decide) rfl) (Nat.le_of_ble_eq_true rfl) rfl (y_X9_empty (I := I) (L := L) (d + 59) hF.txt rfl) (eb_vok rfl) ?_
    rintro _ _ ⟨rfl, rfl⟩
    refine ez_nmI (fun I2 hI2 => ?_)
    show ez_P _ _ _ _ _ _ 38 [(2, .int ((-1) - fv)), (1, .int fv), (0, .ref 0)] [] (n, sl, kd, I2, L, Rf) _
    have hK3 : zK n kd I L Rf I I2 L Rf (T.w_tx []) none none false := by rw [hI2]; exact hK0.txt (I1 := z_set I 1 1 0) ⟨z_set_at, fun k hk => absurd hk (Nat.not_lt_zero k)⟩ (fun c hc => z_set_ne (by omega))
    refine ez_iload_n (i := 2) dX10_thoughts_38 rfl rfl ?_
    refine ez_iret dX10_thoughts_39 rfl rfl ?_
    rw [show s_thoughts T = (-1 - fv, T.w_tx []) from by unfold s_thoughts; rw [z_the_eq hfv z_thf_u, if_neg c1]]
    exact hK3.end
  · skip
    refine ez_aload_n (i := 0) dX10_thoughts_13 rfl rfl ?_
    refine ez_getR dX10_thoughts_14 flX10_26 (hF.lt (by decide)) (hF.kc (by decide) rfl) (hF.pt 4 rfl) ?_
    refine ez_aload_n (i := 0) dX10_thoughts_17 rfl rfl ?_
    refine ez_getR dX10_thoughts_18 flX10_10 (hF.lt (by decide)) (hF.kc (by decide) rfl) (hF.pt 1 rfl) ?_
    refine ez_callV (M1 := mX6_takePrices) (rest := []) dX10_thoughts_21 mlX10_119 mvX6_takePrices rfl (hF.lt (by decide)) (hF.kc (by decide) rfl) (Nat.le_of_ble_eq_true rfl) rfl (k_takePrices (I := I) (L := L) (d + 39) hC hO (z_thf_m1 hO.txl (Decidable.not_not.1 c1 ▸ hfv))) zpI_ok ?_
    rintro _ _ ⟨rfl, I1, rfl, hpr, hn1⟩
    show ez_P _ _ _ _ _ _ 24 [(1, .int fv), (0, .ref 0)] (.int (z_sum (ztp T) 6) :: []) (n, sl, kd, I1, L, Rf) _
    have hK4 : zK n kd I L Rf I I1 L Rf (T.w_pr (ztp T)) none none false := by exact hK0.sea (pr := ztp T) (wm := T.wm) (wd := T.wd) hpr (by rw [hn1 5 (by decide)]; exact hC.wm) (fun k hk => by rw [hn1 7 (by decide)]; exact hC.wd k hk) (fun c hc => hn1 c (by omega))
    refine ez_goto (tgt := 30) dX10_thoughts_24 (by decide) ?_
    refine ez_istore_n (l' := [(2, .int (z_sum (ztp T) 6)), (1, .int fv), (0, .ref 0)]) dX10_thoughts_30 rfl (by decide) rfl ?_
    refine ez_aload_n (i := 0) dX10_thoughts_31 rfl rfl ?_
    refine ez_getR dX10_thoughts_32 flX10_10 (hF.lt (by decide)) (hF.kc (by decide) rfl) (hF.pt 1 rfl) ?_
    refine ez_callV (M1 := mX9_empty) (rest := []) dX10_thoughts_35 mlX10_123 mvX9_empty rfl (hF.lt (by decide)) (hF.kc (by decide) rfl) (Nat.le_of_ble_eq_true rfl) rfl (y_X9_empty (I := I1) (L := L) (d + 59) hF.txt rfl) (eb_vok rfl) ?_
    rintro _ _ ⟨rfl, rfl⟩
    refine ez_nmI (fun I5 hI5 => ?_)
    show ez_P _ _ _ _ _ _ 38 [(2, .int (z_sum (ztp T) 6)), (1, .int fv), (0, .ref 0)] [] (n, sl, kd, I5, L, Rf) _
    have hK6 : zK n kd I L Rf I I5 L Rf ((T.w_pr (ztp T)).w_tx []) none none false := by rw [hI5]; exact hK4.txt (I1 := z_set I1 1 1 0) ⟨z_set_at, fun k hk => absurd hk (Nat.not_lt_zero k)⟩ (fun c hc => z_set_ne (by omega))
    refine ez_iload_n (i := 2) dX10_thoughts_38 rfl rfl ?_
    refine ez_iret dX10_thoughts_39 rfl rfl ?_
    rw [s_thoughts_y (Decidable.not_not.1 c1 ▸ hfv)]
    exact hK6.end
