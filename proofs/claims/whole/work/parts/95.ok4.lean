/-! what the calls leave is in its ranges: sheet, watch, brothers -/
theorem z_put09 (e : Int32) : ∃ k, k < 10 ∧ z_put e 0 9 = nI k := by
  have h : 0 ≤ z_put e 0 9 ∧ z_put e 0 9 ≤ 9 := by
    unfold z_put
    by_cases h1 : e < 0
    · rw [if_pos h1]; decide
    · rw [if_neg h1]
      by_cases h2 : 9 < e
      · rw [if_pos h2]; decide
      · rw [if_neg h2]; exact ⟨Int32.not_lt.mp h1, Int32.not_lt.mp h2⟩
  obtain ⟨k, _, hk, e2⟩ := z_pk1 (lo := 0) (N := 9) h (by decide) (by decide)
  exact ⟨k, by omega, e2⟩
theorem zse_k {kn m f st : Int32} {b : Nat} : ∃ k, k < 10 ∧ zse kn m f st b = nI k := by
  unfold zse
  split
  · exact ⟨0, by decide, rfl⟩
  · exact z_put09 _
theorem zsr_xr {c H : Nat} {x : Nat → Int32} (h : zxr c H x) (hc : c ≤ 7) {kn m f st : Int32} : ∀ k, k ≤ 7 → zxr c H (zsr x kn m f st k)
  | 0, _ => h
  | k + 1, hk => (zsr_xr h hc k (by omega)).gra hc (by omega) zse_k
theorem o_sheet {H : Nat} {T : zT} (hO : zOk H T) (kn m f st : Int32) : zOk H (s_sheet T kn m f st).2 := by
  unfold s_sheet
  split
  · split
    · exact hO
    · exact hO.wx (zsr_xr hO.x hO.c T.c hO.c)
  · exact hO
theorem zfd_lt {p : Nat → Bool} : ∀ N k i, zfd p N k = some i → i < k + N
  | 0, k, i, h => by rw [zfd] at h; cases h
  | N + 1, k, i, h => by
    rw [zfd] at h
    by_cases e : p k = true
    · rw [if_pos e] at h; cases h; omega
    · rw [if_neg e] at h; have := zfd_lt N (k + 1) i h; omega
theorem o_watch {H : Nat} {T : zT} (hO : zOk H T) : zOk (H + 270) (s_watch T).2 := by
  by_cases g : z_the (z_waf T.tt T.tx.length) = -1
  · have hf := z_the_sp (z_waf_ex (t := T.tt) (m := T.tx.length))
    rw [g] at hf
    obtain ⟨hwb, hwc, hw60⟩ := z_waf_m1 hO.txl hf
    obtain ⟨N, hN, hN1, hN2⟩ := zan_ex hwb hwc hw60
    rw [s_watch_y hf hN1 hN2 (by omega)]
    have hd : ∀ j, j < N → ∃ v, v < 10 ∧ T.tt (zap T.tt j + 1) - 48 = nI v := fun j hj => by
      have h1 := zap_ok hwb hwc j (fun i hi => hN1 i (by omega))
      have h2 := z_act_ok hwb hwc (hN1 j hj) h1.2.1
      have h3 := z_ln2 h2.1
      exact z_dg_v hO (by omega) h2.2.2.1
    have hk : ∀ k, k ≤ N → zxr T.c (H + 270) (zwx T k) := fun k hk => (zwx_ok hO k (fun j hj => hd j (by omega))).x.le (by omega)
    have hL := hO.wt0.le (H2 := H + 270) (by omega)
    unfold s_wat
    split
    · next i hi =>
      have := zfd_lt N 0 i hi
      show zOk (H + 270) ((if i = 0 then (T.w_tx []).w_x (zwx T (i + 1)) else ((T.w_tx []).w_x (zwx T (i + 1))).w_un (zpush T.un T.x)).w_rw [1, (100 + zwx T (i + 1) 22).toInt64])
      split
      · exact (hL.wx (hk (i + 1) (by omega))).wrw (by simp)
      · exact ((hL.psh hL.x).wx (hk (i + 1) (by omega))).wrw (by simp)
    · show zOk (H + 270) ((if N = 0 then (T.w_tx []).w_x (zwx T N) else ((T.w_tx []).w_x (zwx T N)).w_un (zpush T.un T.x)).w_rw [0, (100 + zwx T N 22).toInt64])
      split
      · exact (hL.wx (hk N (Nat.le_refl _))).wrw (by simp)
      · exact ((hL.psh hL.x).wx (hk N (Nat.le_refl _))).wrw (by simp)
  · unfold s_watch; rw [if_neg g]; exact hO.wt0.le (by omega)
theorem z_d6_k : ∀ v, v < 256 → (48 : Int32) ≤ nI v ∧ nI v ≤ 53 → ∃ k, k < 6 ∧ nI v - 48 = nI k := by decide +kernel
theorem z_sg5_k : ∀ v, v < 6 → (∃ w, w < 11 ∧ -(nI v) = nI w - 5) ∧ ∃ w, w < 11 ∧ nI v = nI w - 5 := by decide +kernel
theorem z_d6_v {T : zT} {H p : Nat} (hO : zOk H T) (hp : p < T.tx.length) (h : zd6 (T.tt p)) : ∃ v, v < 6 ∧ T.tt p - 48 = nI v := by
  rw [zd6_i] at h
  obtain ⟨v, hv, e⟩ := hO.tx p hp
  have h2 : (48 : Int32) ≤ T.tx.getD p 0 ∧ T.tx.getD p 0 ≤ 53 := h
  rw [e] at h2
  show ∃ w, w < 6 ∧ T.tx.getD p 0 - 48 = nI w
  rw [e]; exact z_d6_k v hv h2
theorem zbx_xr {T : zT} {H k : Nat} (hO : zOk H T) (hk : T.c + k ≤ 7) (hl : 5 * k ≤ T.tx.length + 1) (hb : ∀ p, p < T.tx.length → ¬ z_bad T.tt 2 (min (5 * (7 - T.c)) 34) p) : zxr (T.c + k) H (zbx T k) := by
  have hx := hO.x
  have hz : ∀ i, 20 < i → zbx T k i = T.x i := fun i hi => by unfold zbx; rw [if_neg (by omega), if_neg (by omega), if_neg (by omega)]
  have hg : ∀ p, p < T.tx.length → z_st (z_ch 2 (p % 5)) (T.tt p) := fun p hp => Classical.byContradiction (fun e => hb p hp (Or.inr e))
  refine ⟨fun b hb2 => ?_, fun b hb2 => ?_, fun b hb2 => ?_, ?_, ?_, ?_, ?_, ?_⟩
  · unfold zbx
    by_cases e : T.c ≤ b ∧ b < T.c + k
    · rw [if_pos e]; exact z_dg_v hO (by omega) (z_st57.2 (zb2_0.1 (hg (5 * (b - T.c)) (by omega))))
    · rw [if_neg e, if_neg (by omega), if_neg (by omega)]; exact hx.g b (by omega)
  · unfold zbx
    rw [if_neg (by omega)]
    by_cases e : 7 + T.c ≤ 7 + b ∧ 7 + b < 7 + T.c + k
    · rw [if_pos e]; exact z_d6_v hO (by omega) (zb2_1.1 (hg (5 * (7 + b - 7 - T.c) + 1) (by omega)))
    · rw [if_neg e, if_neg (by omega)]; exact hx.t b (by omega)
  · unfold zbx
    rw [if_neg (by omega), if_neg (by omega)]
    by_cases e : 14 + T.c ≤ 14 + b ∧ 14 + b < 14 + T.c + k
    · rw [if_pos e]
      obtain ⟨v, hv, e2⟩ := z_d6_v hO (p := 5 * (14 + b - 14 - T.c) + 3) (by omega) (zb2_3.1 (hg (5 * (14 + b - 14 - T.c) + 3) (by omega)))
      unfold z_sg
      rw [show 5 * (14 + b - 14 - T.c) + 2 + 1 = 5 * (14 + b - 14 - T.c) + 3 from rfl, e2]
      split
      · exact (z_sg5_k v hv).1
      · exact (z_sg5_k v hv).2
    · rw [if_neg e]; exact hx.p b (by omega)
  · rw [hz 21 (by decide)]; exact hx.s
  · rw [hz 22 (by decide)]; exact hx.l
  · rw [hz 23 (by decide)]; exact hx.lg
  · rw [hz 24 (by decide)]; exact hx.ov
  · rw [hz 25 (by decide)]; exact hx.h
theorem o_brothers {H : Nat} {T : zT} (hO : zOk H T) : zOk H (s_brothers T).2 := by
  unfold s_brothers
  split
  · exact hO.wt0
  · next h0 =>
    split
    · next g =>
      have hf := z_the_sp (z_brf_ex (t := T.tt) (m := T.tx.length) (c := T.c))
      rw [g] at hf
      have h6 := z_brf_m1 hO.txl hf
      obtain ⟨x, h1, h2⟩ := hf
      rw [if_neg (fun e => e.2 h6.1)] at h2
      rw [← h2] at h1
      have hb := z_fst_m1 hO.txl h1
      have h := hO.wt0
      have hc := hO.c
      have hx := zbx_xr hO (k := (T.tx.length + 1) / 5) (by omega) (by omega) hb
      exact ⟨h.txl, h.tx, h.rwl, h.pr, h.wm, h.wd, (show T.c + (T.tx.length + 1) / 5 ≤ 7 by omega), hx, Nat.zero_le _, fun y hy => (nomatch hy), fun i y e => (nomatch e), h.snl, h.sn, h.hdl, h.hd, h.rv⟩
    · exact hO.wt0
