/-! the reference: brothers -/
theorem zM.bro {n : Nat} {kd : Nat → Nat × Nat} {I I1 : Nat → Nat → Int32} {L : Nat → Nat → Int64} {Rf : Nat → Nat → Option Nat} {T : zT} (h : zM n kd I L Rf T) {k : Nat} {x1 : Nat → Int32} (hck : T.c + k ≤ 7) (hk : 0 < k) (h1 : I1 112 1 = nI (T.c + k)) (h22 : I1 112 22 = 0) (h38 : ∀ cm, I 112 38 = nI cm → I1 112 38 = nI (cm + 1)) (hx : ∀ i, i < 26 → I1 113 i = x1 i) (hc : ∀ c, c ≠ 112 → c ≠ 113 → I1 c = I c) (hf : ∀ q, q ≠ 1 → q ≠ 22 → q ≠ 38 → I1 112 q = I 112 q) : zM n kd I1 L Rf ((((T.w_c (T.c + k)).w_x x1).w_un []).w_kp (fun _ => none)) := by
  refine ⟨h.F, h.ru, ?_, ?_, ?_, ?_, ?_, ?_, h1, hx, ⟨h22, fun j y e => by cases e⟩, ?_, ?_, ?_⟩
  · rw [hf 18 (by decide) (by decide) (by decide), hc 119 (by decide) (by decide)]; exact h.rv
  · rw [hf 6 (by decide) (by decide) (by decide), hc 116 (by decide) (by decide)]; exact h.tx
  · rw [hf 8 (by decide) (by decide) (by decide)]; exact h.rw
  · rw [hc 114 (by decide) (by decide)]; exact h.pr
  · rw [hf 4 (by decide) (by decide) (by decide)]; exact h.wm
  · rw [hc 115 (by decide) (by decide)]; exact h.wd
  · obtain ⟨cm, g1, g2, g3, g4⟩ := h.kp
    refine ⟨cm + 1, by omega, ?_, h38 cm g3, fun i hi => ?_⟩
    · show cm + 1 ≤ T.c + k
      omega
    · show I1 135 i = 0 ∨ I1 135 i = 1 ∧ ∃ q, q < cm + 1 ∧ I1 136 i = nI q
      rw [hc 135 (by decide) (by decide), hc 136 (by decide) (by decide)]
      have g5 := g4 i hi
      revert g5
      cases T.kp i with
      | none =>
        rintro (g | ⟨g, q, g6, g7⟩)
        · exact Or.inl g
        · exact Or.inr ⟨g, q, by omega, g7⟩
      | some y =>
        rintro ⟨g, g6, _⟩
        exact Or.inr ⟨g, cm, by omega, g6⟩
  · rw [hf 30 (by decide) (by decide) (by decide), hc 126 (by decide) (by decide), hc 127 (by decide) (by decide), hc 128 (by decide) (by decide)]; exact h.sn
  · rw [hf 34 (by decide) (by decide) (by decide), hc 130 (by decide) (by decide), hc 131 (by decide) (by decide)]; exact h.hd
/-- the row with j new brothers -/
def zbx (T : zT) (j i : Nat) : Int32 := if T.c ≤ i ∧ i < T.c + j then T.tt (5 * (i - T.c)) - 48 else if 7 + T.c ≤ i ∧ i < 7 + T.c + j then T.tt (5 * (i - 7 - T.c) + 1) - 48 else if 14 + T.c ≤ i ∧ i < 14 + T.c + j then z_sg T.tt (5 * (i - 14 - T.c) + 2) else T.x i
theorem zbx_0 {T : zT} {i : Nat} : zbx T 0 i = T.x i := by unfold zbx; rw [if_neg (by omega), if_neg (by omega), if_neg (by omega)]
theorem zbx_s {T : zT} {j i : Nat} (h : T.c + j < 7) : zbx T (j + 1) i = if i = 14 + (T.c + j) then z_sg T.tt (5 * j + 2) else if i = 7 + (T.c + j) then T.tt (5 * j + 1) - 48 else if i = T.c + j then T.tt (5 * j) - 48 else zbx T j i := by
  by_cases e1 : i = 14 + (T.c + j)
  · rw [if_pos e1]; unfold zbx; rw [if_neg (by omega), if_neg (by omega), if_pos (by omega), show i - 14 - T.c = j by omega]
  · rw [if_neg e1]
    by_cases e2 : i = 7 + (T.c + j)
    · rw [if_pos e2]; unfold zbx; rw [if_neg (by omega), if_pos (by omega), show i - 7 - T.c = j by omega]
    · rw [if_neg e2]
      by_cases e3 : i = T.c + j
      · rw [if_pos e3]; unfold zbx; rw [if_pos (by omega), show i - T.c = j by omega]
      · rw [if_neg e3]; unfold zbx
        by_cases g1 : T.c ≤ i ∧ i < T.c + j
        · rw [if_pos g1, if_pos (by omega)]
        · rw [if_neg g1, if_neg (by omega)]
          by_cases g2 : 7 + T.c ≤ i ∧ i < 7 + T.c + j
          · rw [if_pos g2, if_pos (by omega)]
          · rw [if_neg g2, if_neg (by omega)]
            by_cases g3 : 14 + T.c ≤ i ∧ i < 14 + T.c + j
            · rw [if_pos g3, if_pos (by omega)]
            · rw [if_neg g3, if_neg (by omega)]
theorem zbx_w {T : zT} {j : Nat} (h : T.c + j < 7) {K K1 K2 K3 : Nat → Nat → Int32} {v0 v1 v2 : Int32} (hK : ∀ i, i < 26 → K 113 i = zbx T j i) (h1 : K1 = z_set K 113 (T.c + j) v0) (h2 : K2 = z_set K1 113 (7 + (T.c + j)) v1) (h3 : K3 = z_set K2 113 (14 + (T.c + j)) v2) (g0 : v0 = T.tt (5 * j) - 48) (g1 : v1 = T.tt (5 * j + 1) - 48) (g2 : v2 = z_sg T.tt (5 * j + 2)) : ∀ i, i < 26 → K3 113 i = zbx T (j + 1) i := by
  intro i hi
  rw [zbx_s h, h3]
  by_cases e1 : i = 14 + (T.c + j)
  · rw [if_pos e1, e1, z_set_at, g2]
  · rw [if_neg e1, z_set_nk e1, h2]
    by_cases e2 : i = 7 + (T.c + j)
    · rw [if_pos e2, e2, z_set_at, g1]
    · rw [if_neg e2, z_set_nk e2, h1]
      by_cases e3 : i = T.c + j
      · rw [if_pos e3, e3, z_set_at, g0]
      · rw [if_neg e3, z_set_nk e3]; exact hK i hi
noncomputable def s_brothers (T : zT) : Int32 × zT := if T.tx.length = 0 then (0, T.w_tx []) else if z_the (z_brf T.tt T.tx.length T.c) = -1 then (nI ((T.tx.length + 1) / 5), (((((T.w_tx []).w_c (T.c + (T.tx.length + 1) / 5)).w_x (zbx T ((T.tx.length + 1) / 5))).w_un []).w_kp (fun _ => none))) else (-1 - z_the (z_brf T.tt T.tx.length T.c), T.w_tx [])
theorem s_brothers_0 {T : zT} (h : T.tx.length = 0) : s_brothers T = (0, T.w_tx []) := by unfold s_brothers; rw [if_pos h]
theorem s_brothers_n {T : zT} {p : Nat} (h0 : ¬ T.tx.length = 0) (hp : p < 1000) (h : z_brf T.tt T.tx.length T.c (nI p)) : s_brothers T = (-1 - nI p, T.w_tx []) := by
  unfold s_brothers; rw [if_neg h0, z_the_eq h z_brf_u, if_neg (nI_nm1 p (by omega))]
theorem s_brothers_y {T : zT} {k : Nat} (hk : T.tx.length = 5 * k + 4) (h : z_brf T.tt T.tx.length T.c (-1)) : s_brothers T = (nI (k + 1), (((((T.w_tx []).w_c (T.c + (k + 1))).w_x (zbx T (k + 1))).w_un []).w_kp (fun _ => none))) := by
  have e : (T.tx.length + 1) / 5 = k + 1 := by omega
  unfold s_brothers; rw [if_neg (by omega), z_the_eq h z_brf_u, if_pos rfl, e]
abbrev zd6 (v : Int32) : Prop := 48 ≤ v ∧ v ≤ 48 + 6 - 1
theorem zd6_i {v : Int32} : zd6 v ↔ 48 ≤ v ∧ v ≤ 53 := by unfold zd6; rw [show (48 : Int32) + 6 - 1 = 53 from by decide]
theorem zd6_m : ¬ zd6 (-1) := by decide
theorem z_st53 {v : Int32} : z_st 53 v ↔ zd6 v := by
  rw [zd6_i]
  unfold z_st
  constructor
  · rintro (⟨g, _⟩ | ⟨_, g⟩ | ⟨g, _⟩ | ⟨g, _⟩ | ⟨_, g, _⟩)
    · exact absurd g (by decide)
    · exact g
    · exact absurd g (by decide)
    · exact absurd g (by decide)
    · exact absurd rfl g
  · intro g; exact Or.inr (Or.inl ⟨rfl, g⟩)
theorem z_st59 {v : Int32} : z_st 59 v ↔ v = 59 := by
  unfold z_st
  constructor
  · rintro (⟨g, _⟩ | ⟨g, _⟩ | ⟨g, _⟩ | ⟨g, _⟩ | ⟨_, _, _, _, g⟩)
    · exact absurd g (by decide)
    · exact absurd g (by decide)
    · exact absurd g (by decide)
    · exact absurd g (by decide)
    · exact g
  · intro g; exact Or.inr (Or.inr (Or.inr (Or.inr ⟨by decide, by decide, by decide, by decide, g⟩)))
theorem zb2_0 {k : Nat} {v : Int32} : z_st (z_ch 2 (5 * k % 5)) v ↔ zdg v := by rw [show 5 * k % 5 = 0 by omega, show z_ch 2 0 = 57 by decide, z_st57]
theorem zb2_1 {k : Nat} {v : Int32} : z_st (z_ch 2 ((5 * k + 1) % 5)) v ↔ zd6 v := by rw [show (5 * k + 1) % 5 = 1 by omega, show z_ch 2 1 = 53 by decide, z_st53]
theorem zb2_2 {k : Nat} {v : Int32} : z_st (z_ch 2 ((5 * k + 2) % 5)) v ↔ zsi v := by rw [show (5 * k + 2) % 5 = 2 by omega, show z_ch 2 2 = 43 by decide, z_st43]
theorem zb2_3 {k : Nat} {v : Int32} : z_st (z_ch 2 ((5 * k + 3) % 5)) v ↔ zd6 v := by rw [show (5 * k + 3) % 5 = 3 by omega, show z_ch 2 3 = 53 by decide, z_st53]
theorem zb2_4 {k : Nat} {v : Int32} : z_st (z_ch 2 ((5 * k + 4) % 5)) v ↔ v = 59 := by rw [show (5 * k + 4) % 5 = 4 by omega, show z_ch 2 4 = 59 by decide, z_st59]
/-- the first p signs are right -/
def zbG (T : zT) (p : Nat) : Prop := p ≤ T.tx.length ∧ ∀ q, q < p → ¬ z_bad T.tt 2 (min (5 * (7 - T.c)) 34) q
theorem zbG.nx {n : Nat} {kd : Nat → Nat × Nat} {I : Nat → Nat → Int32} {L : Nat → Nat → Int64} {Rf : Nat → Nat → Option Nat} {T : zT} {H : Nat} (hM : zM n kd I L Rf T) (hO : zOk H T) {p : Nat} (h : zbG T p) (hp : p < 5 * (7 - T.c)) (h34 : p < 34) (hs : z_st (z_ch 2 (p % 5)) (zhr (I 116) T.tx.length 34 p)) (hne : ¬ zhr (I 116) T.tx.length 34 p = -1) : zbG T (p + 1) := by
  by_cases e : p < T.tx.length ∧ p < 34
  · refine ⟨by omega, fun q hq => ?_⟩
    by_cases g : q = p
    · rw [g]; unfold z_bad
      rw [hM.hr hO e.1 e.2] at hs
      rintro (g | g)
      · omega
      · exact g hs
    · exact h.2 q (by omega)
  · exact absurd (zM.hn e) hne
theorem zbG.no {n : Nat} {kd : Nat → Nat × Nat} {I : Nat → Nat → Int32} {L : Nat → Nat → Int64} {Rf : Nat → Nat → Option Nat} {T : zT} {H : Nat} (hM : zM n kd I L Rf T) (hO : zOk H T) {p : Nat} (h : zbG T p) (h34 : p < 34) (hs : ¬ z_st (z_ch 2 (p % 5)) (zhr (I 116) T.tx.length 34 p)) (h4 : ¬ p % 5 = 4) (hl : ¬ T.tx.length = 0) : z_brf T.tt T.tx.length T.c (nI p) := by
  have h1 := h.1
  by_cases e : p < T.tx.length
  · refine ⟨nI p, Or.inl ⟨p, e, ?_, h.2, rfl⟩, ?_⟩
    · rw [hM.hr hO e h34] at hs; exact Or.inr hs
    · rw [if_neg (fun g => nI_nm1 _ (by omega) g.1)]
  · have e2 : p = T.tx.length := by omega
    refine ⟨-1, Or.inr ⟨fun q hq => h.2 q (by omega), rfl⟩, ?_⟩
    rw [if_pos ⟨rfl, by omega⟩, e2]
theorem zbG.fu {T : zT} {k : Nat} (hc : T.c ≤ 7) (h : zbG T (5 * k)) (hk : T.c + k = 7) (h7 : k < 7) (hl : ¬ T.tx.length = 0) (hx8 : T.tx.length ≤ 80) : z_brf T.tt T.tx.length T.c (nI (5 * k)) := by
  have h1 := h.1
  by_cases e : 5 * k < T.tx.length
  · exact ⟨nI (5 * k), Or.inl ⟨5 * k, e, Or.inl (by omega), h.2, rfl⟩, by rw [if_neg (fun g => nI_nm1 _ (by omega) g.1)]⟩
  · have e2 : 5 * k = T.tx.length := by omega
    refine ⟨-1, Or.inr ⟨fun q hq => h.2 q (by omega), rfl⟩, ?_⟩
    rw [if_pos ⟨rfl, by omega⟩, e2]
theorem zbG.en {n : Nat} {kd : Nat → Nat × Nat} {I : Nat → Nat → Int32} {L : Nat → Nat → Int64} {Rf : Nat → Nat → Option Nat} {T : zT} {H : Nat} (hM : zM n kd I L Rf T) (hO : zOk H T) {k : Nat} (hk : T.c + k < 7) (h : zbG T (5 * k + 4)) (hs : ¬ zhr (I 116) T.tx.length 34 (5 * k + 4) = 59) : (5 * k + 4 < T.tx.length → z_brf T.tt T.tx.length T.c (nI (5 * k + 4))) ∧ (¬ 5 * k + 4 < T.tx.length → z_brf T.tt T.tx.length T.c (-1) ∧ T.tx.length = 5 * k + 4) := by
  have h1 := h.1
  refine ⟨fun e => ⟨nI (5 * k + 4), Or.inl ⟨5 * k + 4, e, ?_, h.2, rfl⟩, by rw [if_neg (fun g => nI_nm1 _ (by omega) g.1)]⟩, fun e => ⟨⟨-1, Or.inr ⟨fun q hq => h.2 q (by omega), rfl⟩, by rw [if_neg (fun g => g.2 (Or.inr (by omega)))]⟩, by omega⟩⟩
  by_cases g : 5 * k + 4 < 34
  · refine Or.inr ?_
    rw [hM.hr hO e g] at hs; exact fun g => hs (zb2_4.1 g)
  · exact Or.inl (by omega)
theorem zdg_ne {v : Int32} (h : zdg v) : ¬ v = -1 := fun e => zdg_m (e ▸ h)
theorem zd6_ne {v : Int32} (h : zd6 v) : ¬ v = -1 := fun e => zd6_m (e ▸ h)
theorem zsi_ne {v : Int32} (h : zsi v) : ¬ v = -1 := fun e => zsi_m (e ▸ h)
theorem z59_ne {v : Int32} (h : v = 59) : ¬ v = -1 := fun e => absurd (h.symm.trans e) (by decide)
/-- what is told of q brothers -/
def zbo (T : zT) (J : Nat → Nat → Int32) (k : Nat) : Prop := ∀ q, q < k → J 118 (3 * q) = T.tt (5 * q) - 48 ∧ J 118 (3 * q + 1) = T.tt (5 * q + 1) - 48 ∧ J 118 (3 * q + 2) = z_sg T.tt (5 * q + 2)
theorem zbo_s {n : Nat} {kd : Nat → Nat × Nat} {I : Nat → Nat → Int32} {L : Nat → Nat → Int64} {Rf : Nat → Nat → Option Nat} {T : zT} {H : Nat} (hM : zM n kd I L Rf T) (hO : zOk H T) {J : Nat → Nat → Int32} {k : Nat} (h : zbo T J k) (hg : zbG T (5 * k + 4)) (h7 : k < 7) : zbo T (z_set (z_set (z_set J 118 (3 * k) (zhr (I 116) T.tx.length 34 (5 * k) - 48)) 118 (3 * k + 1) (zhr (I 116) T.tx.length 34 (5 * k + 1) - 48)) 118 (3 * k + 2) (if zhr (I 116) T.tx.length 34 (5 * k + 2) = 45 then -(zhr (I 116) T.tx.length 34 (5 * k + 3) - 48) else zhr (I 116) T.tx.length 34 (5 * k + 3) - 48)) (k + 1) := by
  have h1 := hg.1
  intro q hq
  by_cases e : q = k
  · rw [e, z_set_nk (by omega), z_set_nk (by omega), z_set_at, z_set_nk (by omega), z_set_at, z_set_at, hM.hr hO (by omega) (by omega), hM.hr hO (by omega) (by omega), hM.hr hO (by omega) (by omega), hM.hr hO (by omega) (by omega)]
    exact ⟨rfl, rfl, rfl⟩
  · rw [z_set_nk (by omega), z_set_nk (by omega), z_set_nk (by omega), z_set_nk (by omega), z_set_nk (by omega), z_set_nk (by omega), z_set_nk (by omega), z_set_nk (by omega), z_set_nk (by omega)]
    exact h q (by omega)
theorem q_X11_brothers {n : Nat} {sl : Nat × Nat} {kd : Nat → Nat × Nat} {I : Nat → Nat → Int32} {L : Nat → Nat → Int64} {Rf : Nat → Nat → Option Nat} (d : Nat) {T : zT} {H : Nat} (hM : zM n kd I L Rf T) (hO : zOk H T) : eb_Q mX11_brothers (d + 20) [.ref 112] (n, sl, kd, I, L, Rf) (zpM n sl kd I L Rf (some (.int (s_brothers T).1)) (s_brothers T).2) := by
  have hF := hM.F; have hc7 := hO.c; have hx8 := hO.txl
  refine ep_meth pn_X.2.2.2.2.2.2.2.2.2.2.2 (Nat.le_of_ble_eq_true rfl) ?_
  show eb_P _ _ 0 [(0, .ref 112)] [] (n, sl, kd, I, L, Rf) _
  refine ep_aload_n (i := 0) dX11_brothers_0 rfl rfl ?_
  refine ep_iconst (v := 0) dX11_brothers_1 (by decide) ?_
  refine ep_pI dX11_brothers_2 plX11_89 (hF.lt (by decide)) (hF.lx (by decide)) (hF.kc (by decide) rfl) rfl rfl ?_
  refine ep_nmI (fun I1 hI1 => ?_)
  subst hI1
  refine ep_aload_n (i := 0) dX11_brothers_5 rfl rfl ?_
  refine ep_bipush (v := 34) dX11_brothers_6 (by decide) ?_
  refine ep_callV (M1 := mX11_beginText) (rest := []) dX11_brothers_8 mlX11_144 mvX11_beginText rfl (hF.lt (by decide)) (hF.kc (by decide) rfl) (Nat.le_of_ble_eq_true rfl) rfl (k_bt (I := I) (L := L) (d + 18) hM hO (tp := 34) (by decide)) (fun _ _ h => Or.inl (by obtain ⟨_, J, R1, h, _⟩ := h; rw [h])) ?_
  rintro _ _ ⟨rfl, J0, R1, rfl, hB⟩
  replace hF := hB.P.F
  show eb_P _ _ 11 [(0, .ref 112)] [] (n, sl, kd, (zpw J0 (0, -1)), L, R1) _
  refine ep_aload_n (i := 0) dX11_brothers_11 rfl rfl ?_
  refine ep_getI dX11_brothers_12 flX11_108 (hF.lt (by decide)) (hF.kc (by decide) rfl) ?_
  refine ep_topE (y := nI T.tx.length) ((zpw_o (by decide) (by decide)).trans hB.P.l) ?_
  refine ep_if_ne (tgt := 20) dX11_brothers_15 (by decide) (fun c2 => ?_) (fun c2 => ?_)
  · skip
    refine ep_iconst (v := 0) dX11_brothers_20 (by decide) ?_
    refine ep_istore_n (l' := [(1, .int 0), (0, .ref 112)]) dX11_brothers_21 rfl (by decide) rfl ?_
    refine ep_iconst (v := 1) dX11_brothers_22 (by decide) ?_
    refine ep_istore_n (l' := [(2, .int 1), (1, .int 0), (0, .ref 112)]) dX11_brothers_23 rfl (by decide) rfl ?_
    have hl0 : ¬ T.tx.length = 0 := fun e => c2 (by rw [e]; rfl)
    refine ep_eq (l2 := [(2, .int 1), (1, .int (nI 0)), (0, .ref 112)]) (σ2 := (n, sl, kd, zpw J0 (0, -1), L, R1)) rfl (by rw [nI_0]) rfl rfl ?_
    refine ep_for 9 (fun k (a : (Nat → Nat → Int32) × zps × Int32) => ([(2, .int a.2.2), (1, .int (nI k)), (0, .ref 112)], (n, sl, kd, zpw a.1 a.2.1, L, R1))) (fun k a => zB n kd I Rf T 34 a.1 R1 ∧ ((a.2.2 = 1 ∧ a.2.1 = (5 * k, -1) ∧ T.c + k ≤ 7 ∧ zbG T (5 * k) ∧ zbo T a.1 k) ∨ (∃ j, k = j + 1 ∧ a.2.2 = 0 ∧ a.2.1 = (5 * j + 4, -1) ∧ T.c + j < 7 ∧ zbG T (5 * j + 4) ∧ zbo T a.1 (j + 1) ∧ ¬ (zhr (I 116) T.tx.length 34) (5 * j + 4) = 59) ∨ (k ≤ 8 ∧ a.2.2 = 0 ∧ ∃ p b, p < 200 ∧ b < 200 ∧ a.2.1 = (b, nI p) ∧ z_brf T.tt T.tx.length T.c (nI p)))) ?_ ?_ 9 0 (J0, (0, -1), 1) (by omega) ⟨hB, Or.inl ⟨rfl, rfl, by omega, ⟨Nat.zero_le _, fun q hq => absurd hq (Nat.not_lt_zero q)⟩, fun q hq => absurd hq (Nat.not_lt_zero q)⟩⟩
    · rintro k ⟨Ja, sa, ma⟩ hk ⟨hBa, ⟨hma, hsa, hck, hG, hto⟩ | ⟨j, hkj, hma, hsa, hck, hG, hto, hns⟩ | ⟨hk8, hma, p, b, hp1, hp2, hsa, hno⟩⟩ ih
      · replace hma : ma = 1 := hma; replace hsa : sa = (5 * k, -1) := hsa; subst hsa hma; replace hBa : zB n kd I Rf T 34 Ja R1 := hBa
        replace hto : zbo T Ja k := hto
        show eb_P _ _ 24 [(2, .int 1), (1, .int (nI k)), (0, .ref 112)] [] (n, sl, kd, (zpw Ja (5 * k, -1)), L, R1) _
        refine ep_iload_n (i := 2) dX11_brothers_24 rfl rfl ?_
        refine ep_if_eq (tgt := 120) dX11_brothers_25 (by decide) (fun c3 => absurd c3 (by decide)) (fun c3 => ?_)
        refine ep_aload_n (i := 0) dX11_brothers_28 rfl rfl ?_
        refine ep_callV (M1 := mX11_fine) (rest := []) dX11_brothers_29 mlX11_124 mvX11_fine rfl (hF.lt (by decide)) (hF.kc (by decide) rfl) (Nat.le_of_ble_eq_true rfl) rfl (eb_b1 rfl  (q_X11_fine (I := Ja) (L := L) (d + 19) hBa.P (s := (5 * k, -1)) (show 5 * k < 1000 by omega))) eb_rok ?_
        rintro _ _ ⟨rfl, rfl⟩
        show eb_P _ _ 32 [(2, .int 1), (1, .int (nI k)), (0, .ref 112)] (.int 1 :: []) _ _
        refine ep_if_eq (tgt := 120) dX11_brothers_32 (by decide) (fun c4 => absurd c4 (by decide)) (fun c4 => ?_)
        refine ep_aload_n (i := 0) dX11_brothers_35 rfl rfl ?_
        refine ep_getI dX11_brothers_36 flX11_95 (hF.lt (by decide)) (hF.kc (by decide) rfl) ?_
        refine ep_topE (y := nI T.c) ((zpw_o (by decide) (by decide)).trans ((hBa.f 1 (by decide) (by decide) (by decide) (by decide) (by decide) (by decide)).trans hM.c)) ?_
        refine ep_iload_n (i := 1) dX11_brothers_39 rfl rfl ?_
        refine ep_iadd dX11_brothers_40 ?_
        refine ep_topE (y := nI (T.c + k)) (nI_add _ _) ?_
        refine ep_bipush (v := 7) dX11_brothers_41 (by decide) ?_
        refine ep_icmp_ne (tgt := 57) dX11_brothers_43 (by decide) (fun c5 => ?_) (fun c5 => ?_)
        · skip
          have hk7 : T.c + k < 7 := Nat.lt_of_le_of_ne hck (fun e => c5 (by rw [e]; rfl))
          refine ep_aload_n (i := 0) dX11_brothers_57 rfl rfl ?_
          refine ep_getR dX11_brothers_58 flX11_31 (hF.lt (by decide)) (hF.kc (by decide) rfl) (hF.pt 112 rfl) ?_
          refine ep_iconst (v := 3) dX11_brothers_61 (by decide) ?_
          refine ep_iload_n (i := 1) dX11_brothers_62 rfl rfl ?_
          refine ep_imul dX11_brothers_63 ?_
          refine ep_topE (y := nI (3 * k)) (nI_mul _ _) ?_
          refine ep_aload_n (i := 0) dX11_brothers_64 rfl rfl ?_
          refine ep_bipush (v := 48) dX11_brothers_65 (by decide) ?_
          refine ep_bipush (v := 10) dX11_brothers_67 (by decide) ?_
          refine ep_callV (M1 := mX11_oneOf) (rest := [.int (nI (3 * k)), .ref 118]) dX11_brothers_69 mlX11_140 mvX11_oneOf rfl (hF.lt (by decide)) (hF.kc (by decide) rfl) (Nat.le_of_ble_eq_true rfl) rfl (q_X11_oneOf (I := Ja) (L := L) (d + 17) hBa.P (s := (5 * k, -1)) (show 5 * k < 1000 by omega) (a := 48) (k := 10) (by decide) z_hk10) (fun _ _ g => Or.inl (by rw [g.1])) ?_
          rintro _ _ ⟨rfl, rfl⟩
          by_cases hd6 : 48 ≤ (zhr (I 116) T.tx.length 34) (5 * k) ∧ (zhr (I 116) T.tx.length 34) (5 * k) ≤ 48 + 10 - 1
          · rw [zp_one_y hd6]
            show eb_P _ _ 72 [(2, .int 1), (1, .int (nI k)), (0, .ref 112)] (.int ((zhr (I 116) T.tx.length 34) (5 * k) - 48) :: [.int (nI (3 * k)), .ref 118]) (n, sl, kd, (zpw Ja (5 * k + 1, -1)), L, R1) _
            refine ep_isN (k := (3 * k)) dX11_brothers_72 (hF.lt (by decide)) (hF.lx (by decide)) (hF.ka (by decide) rfl) (by omega) (by decide) ?_
            refine ep_eq (σ2 := (n, sl, kd, zpw (z_set Ja 118 (3 * k) ((zhr (I 116) T.tx.length 34) (5 * k) - 48)) (5 * k + 1, -1), L, R1)) rfl rfl rfl (by rw [zpw_st (by decide)]) ?_
            have hB7 : zB n kd I Rf T 34 (z_set Ja 118 (3 * k) ((zhr (I 116) T.tx.length 34) (5 * k) - 48)) R1 := hBa.st (by decide)
            refine ep_aload_n (i := 0) dX11_brothers_73 rfl rfl ?_
            refine ep_getR dX11_brothers_74 flX11_31 (hF.lt (by decide)) (hF.kc (by decide) rfl) (hF.pt 112 rfl) ?_
            refine ep_iconst (v := 3) dX11_brothers_77 (by decide) ?_
            refine ep_iload_n (i := 1) dX11_brothers_78 rfl rfl ?_
            refine ep_imul dX11_brothers_79 ?_
            refine ep_topE (y := nI (3 * k)) (nI_mul _ _) ?_
            refine ep_iconst (v := 1) dX11_brothers_80 (by decide) ?_
            refine ep_iadd dX11_brothers_81 ?_
            refine ep_topE (y := nI ((3 * k) + 1)) (nI_add _ _) ?_
            refine ep_aload_n (i := 0) dX11_brothers_82 rfl rfl ?_
            refine ep_bipush (v := 48) dX11_brothers_83 (by decide) ?_
            refine ep_bipush (v := 6) dX11_brothers_85 (by decide) ?_
            refine ep_callV (M1 := mX11_oneOf) (rest := [.int (nI ((3 * k) + 1)), .ref 118]) dX11_brothers_87 mlX11_140 mvX11_oneOf rfl (hF.lt (by decide)) (hF.kc (by decide) rfl) (Nat.le_of_ble_eq_true rfl) rfl (q_X11_oneOf (I := (z_set Ja 118 (3 * k) ((zhr (I 116) T.tx.length 34) (5 * k) - 48))) (L := L) (d + 17) hB7.P (s := (5 * k + 1, -1)) (show 5 * k + 1 < 1000 by omega) (a := 48) (k := 6) (by decide) z_hk6) (fun _ _ g => Or.inl (by rw [g.1])) ?_
            rintro _ _ ⟨rfl, rfl⟩
            by_cases hd8 : 48 ≤ (zhr (I 116) T.tx.length 34) (5 * k + 1) ∧ (zhr (I 116) T.tx.length 34) (5 * k + 1) ≤ 48 + 6 - 1
            · rw [zp_one_y hd8]
              show eb_P _ _ 90 [(2, .int 1), (1, .int (nI k)), (0, .ref 112)] (.int ((zhr (I 116) T.tx.length 34) (5 * k + 1) - 48) :: [.int (nI ((3 * k) + 1)), .ref 118]) (n, sl, kd, (zpw (z_set Ja 118 (3 * k) ((zhr (I 116) T.tx.length 34) (5 * k) - 48)) (5 * k + 1 + 1, -1)), L, R1) _
              refine ep_isN (k := ((3 * k) + 1)) dX11_brothers_90 (hF.lt (by decide)) (hF.lx (by decide)) (hF.ka (by decide) rfl) (by omega) (by decide) ?_
              refine ep_eq (σ2 := (n, sl, kd, zpw (z_set (z_set Ja 118 (3 * k) ((zhr (I 116) T.tx.length 34) (5 * k) - 48)) 118 ((3 * k) + 1) ((zhr (I 116) T.tx.length 34) (5 * k + 1) - 48)) (5 * k + 1 + 1, -1), L, R1)) rfl rfl rfl (by rw [zpw_st (by decide)]) ?_
              have hB9 : zB n kd I Rf T 34 (z_set (z_set Ja 118 (3 * k) ((zhr (I 116) T.tx.length 34) (5 * k) - 48)) 118 ((3 * k) + 1) ((zhr (I 116) T.tx.length 34) (5 * k + 1) - 48)) R1 := hB7.st (by decide)
              refine ep_aload_n (i := 0) dX11_brothers_91 rfl rfl ?_
              refine ep_getR dX11_brothers_92 flX11_31 (hF.lt (by decide)) (hF.kc (by decide) rfl) (hF.pt 112 rfl) ?_
              refine ep_iconst (v := 3) dX11_brothers_95 (by decide) ?_
              refine ep_iload_n (i := 1) dX11_brothers_96 rfl rfl ?_
              refine ep_imul dX11_brothers_97 ?_
              refine ep_topE (y := nI (3 * k)) (nI_mul _ _) ?_
              refine ep_iconst (v := 2) dX11_brothers_98 (by decide) ?_
              refine ep_iadd dX11_brothers_99 ?_
              refine ep_topE (y := nI ((3 * k) + 2)) (nI_add _ _) ?_
              refine ep_aload_n (i := 0) dX11_brothers_100 rfl rfl ?_
              refine ep_bipush (v := 6) dX11_brothers_101 (by decide) ?_
              refine ep_callV (M1 := mX11_signedOf) (rest := [.int (nI ((3 * k) + 2)), .ref 118]) dX11_brothers_103 mlX11_150 mvX11_signedOf rfl (hF.lt (by decide)) (hF.kc (by decide) rfl) (Nat.le_of_ble_eq_true rfl) rfl (q_X11_signedOf (I := (z_set (z_set Ja 118 (3 * k) ((zhr (I 116) T.tx.length 34) (5 * k) - 48)) 118 ((3 * k) + 1) ((zhr (I 116) T.tx.length 34) (5 * k + 1) - 48))) (L := L) (d + 16) hB9.P (s := (5 * k + 1 + 1, -1)) (show 5 * k + 1 + 1 < 900 by omega) (k := 6) z_hk6) (fun _ _ g => Or.inl (by rw [g.1])) ?_
              rintro _ _ ⟨rfl, rfl⟩
              by_cases hs10 : (zhr (I 116) T.tx.length 34) (5 * k + 1 + 1) = 45 ∨ (zhr (I 116) T.tx.length 34) (5 * k + 1 + 1) = 43
              · by_cases hd11 : 48 ≤ (zhr (I 116) T.tx.length 34) (5 * k + 1 + 1 + 1) ∧ (zhr (I 116) T.tx.length 34) (5 * k + 1 + 1 + 1) ≤ 48 + 6 - 1
                · rw [zp_sgn_y hs10 hd11]
                  show eb_P _ _ 106 [(2, .int 1), (1, .int (nI k)), (0, .ref 112)] (.int (if (zhr (I 116) T.tx.length 34) (5 * k + 1 + 1) = 45 then -((zhr (I 116) T.tx.length 34) (5 * k + 1 + 1 + 1) - 48) else (zhr (I 116) T.tx.length 34) (5 * k + 1 + 1 + 1) - 48) :: [.int (nI ((3 * k) + 2)), .ref 118]) (n, sl, kd, (zpw (z_set (z_set Ja 118 (3 * k) ((zhr (I 116) T.tx.length 34) (5 * k) - 48)) 118 ((3 * k) + 1) ((zhr (I 116) T.tx.length 34) (5 * k + 1) - 48)) (5 * k + 1 + 1 + 2, -1)), L, R1) _
                  refine ep_isN (k := ((3 * k) + 2)) dX11_brothers_106 (hF.lt (by decide)) (hF.lx (by decide)) (hF.ka (by decide) rfl) (by omega) (by decide) ?_
                  refine ep_eq (σ2 := (n, sl, kd, zpw (z_set (z_set (z_set Ja 118 (3 * k) ((zhr (I 116) T.tx.length 34) (5 * k) - 48)) 118 ((3 * k) + 1) ((zhr (I 116) T.tx.length 34) (5 * k + 1) - 48)) 118 ((3 * k) + 2) (if (zhr (I 116) T.tx.length 34) (5 * k + 1 + 1) = 45 then -((zhr (I 116) T.tx.length 34) (5 * k + 1 + 1 + 1) - 48) else (zhr (I 116) T.tx.length 34) (5 * k + 1 + 1 + 1) - 48)) (5 * k + 1 + 1 + 2, -1), L, R1)) rfl rfl rfl (by rw [zpw_st (by decide)]) ?_
                  have hB12 : zB n kd I Rf T 34 (z_set (z_set (z_set Ja 118 (3 * k) ((zhr (I 116) T.tx.length 34) (5 * k) - 48)) 118 ((3 * k) + 1) ((zhr (I 116) T.tx.length 34) (5 * k + 1) - 48)) 118 ((3 * k) + 2) (if (zhr (I 116) T.tx.length 34) (5 * k + 1 + 1) = 45 then -((zhr (I 116) T.tx.length 34) (5 * k + 1 + 1 + 1) - 48) else (zhr (I 116) T.tx.length 34) (5 * k + 1 + 1 + 1) - 48)) R1 := hB9.st (by decide)
                  refine ep_iinc (v := (nI (k + 1))) (l' := [(1, .int ((nI (k + 1)))), (2, .int 1), (0, .ref 112)]) dX11_brothers_107 rfl (nI_1 _) (by decide) rfl ?_
                  refine ep_aload_n (i := 0) dX11_brothers_110 rfl rfl ?_
                  refine ep_bipush (v := 59) dX11_brothers_111 (by decide) ?_
                  refine ep_callV (M1 := mX11_passes) (rest := []) dX11_brothers_113 mlX11_132 mvX11_passes rfl (hF.lt (by decide)) (hF.kc (by decide) rfl) (Nat.le_of_ble_eq_true rfl) rfl (q_X11_passes (I := (z_set (z_set (z_set Ja 118 (3 * k) ((zhr (I 116) T.tx.length 34) (5 * k) - 48)) 118 ((3 * k) + 1) ((zhr (I 116) T.tx.length 34) (5 * k + 1) - 48)) 118 ((3 * k) + 2) (if (zhr (I 116) T.tx.length 34) (5 * k + 1 + 1) = 45 then -((zhr (I 116) T.tx.length 34) (5 * k + 1 + 1 + 1) - 48) else (zhr (I 116) T.tx.length 34) (5 * k + 1 + 1 + 1) - 48))) (L := L) (d + 18) hB12.P (s := (5 * k + 1 + 1 + 2, -1)) (show 5 * k + 1 + 1 + 2 < 1000 by omega) 59) zpb_ok ?_
                  rintro _ _ (⟨hp13, rfl, rfl⟩ | ⟨hp13, rfl, rfl⟩)
                  · replace hp13 : (zhr (I 116) T.tx.length 34) (5 * k + 1 + 1 + 2) = 59 := hp13.2
                    show eb_P _ _ 116 [(1, .int ((nI (k + 1)))), (2, .int 1), (0, .ref 112)] (.int 1 :: []) (n, sl, kd, (zpw (z_set (z_set (z_set Ja 118 (3 * k) ((zhr (I 116) T.tx.length 34) (5 * k) - 48)) 118 ((3 * k) + 1) ((zhr (I 116) T.tx.length 34) (5 * k + 1) - 48)) 118 ((3 * k) + 2) (if (zhr (I 116) T.tx.length 34) (5 * k + 1 + 1) = 45 then -((zhr (I 116) T.tx.length 34) (5 * k + 1 + 1 + 1) - 48) else (zhr (I 116) T.tx.length 34) (5 * k + 1 + 1 + 1) - 48)) (5 * k + 1 + 1 + 2 + 1, -1)), L, R1) _
                    refine ep_istore_n (l' := [(2, .int 1), (1, .int ((nI (k + 1)))), (0, .ref 112)]) dX11_brothers_116 rfl (by decide) rfl ?_
                    refine ep_goto (tgt := 24) dX11_brothers_117 (by decide) ?_
                    have hG1 : zbG T (5 * k + 1) := hG.nx hM hO (by omega) (by omega) (zb2_0.2 hd6) (zdg_ne hd6)
                    have hG2 : zbG T (5 * k + 2) := hG1.nx hM hO (by omega) (by omega) (zb2_1.2 hd8) (zd6_ne hd8)
                    have hG3 : zbG T (5 * k + 3) := hG2.nx hM hO (by omega) (by omega) (zb2_2.2 hs10) (zsi_ne hs10)
                    have hG4 : zbG T (5 * k + 4) := hG3.nx hM hO (by omega) (by omega) (zb2_3.2 hd11) (zd6_ne hd11)
                    have hto1 := zbo_s hM hO hto hG4 (by omega)
                    have h34 : 5 * k + 4 < 34 := by rcases Nat.lt_or_ge (5 * k + 4) 34 with g | g; exact g; exact absurd hp13 (by rw [show (zhr (I 116) T.tx.length 34) (5 * k + 4) = -1 from zM.hn (by omega)]; decide)
                    have hG5 : zbG T (5 * k + 5) := hG4.nx hM hO (by omega) h34 (zb2_4.2 hp13) (z59_ne hp13)
                    exact ep_eq (l2 := [(2, .int 1), (1, .int (nI (k + 1))), (0, .ref 112)]) rfl rfl rfl rfl (ih ((z_set (z_set (z_set Ja 118 (3 * k) ((zhr (I 116) T.tx.length 34) (5 * k) - 48)) 118 ((3 * k) + 1) ((zhr (I 116) T.tx.length 34) (5 * k + 1) - 48)) 118 ((3 * k) + 2) (if (zhr (I 116) T.tx.length 34) (5 * k + 1 + 1) = 45 then -((zhr (I 116) T.tx.length 34) (5 * k + 1 + 1 + 1) - 48) else (zhr (I 116) T.tx.length 34) (5 * k + 1 + 1 + 1) - 48)), (5 * k + 1 + 1 + 2 + 1, -1), 1) ⟨hB12, Or.inl ⟨rfl, rfl, by omega, hG5, hto1⟩⟩)
                  · replace hp13 : ¬ (zhr (I 116) T.tx.length 34) (5 * k + 1 + 1 + 2) = 59 := fun g => hp13 ⟨rfl, g⟩
                    show eb_P _ _ 116 [(1, .int ((nI (k + 1)))), (2, .int 1), (0, .ref 112)] (.int 0 :: []) (n, sl, kd, (zpw (z_set (z_set (z_set Ja 118 (3 * k) ((zhr (I 116) T.tx.length 34) (5 * k) - 48)) 118 ((3 * k) + 1) ((zhr (I 116) T.tx.length 34) (5 * k + 1) - 48)) 118 ((3 * k) + 2) (if (zhr (I 116) T.tx.length 34) (5 * k + 1 + 1) = 45 then -((zhr (I 116) T.tx.length 34) (5 * k + 1 + 1 + 1) - 48) else (zhr (I 116) T.tx.length 34) (5 * k + 1 + 1 + 1) - 48)) (5 * k + 1 + 1 + 2, -1)), L, R1) _
                    refine ep_istore_n (l' := [(2, .int 0), (1, .int ((nI (k + 1)))), (0, .ref 112)]) dX11_brothers_116 rfl (by decide) rfl ?_
                    refine ep_goto (tgt := 24) dX11_brothers_117 (by decide) ?_
                    have hG1 : zbG T (5 * k + 1) := hG.nx hM hO (by omega) (by omega) (zb2_0.2 hd6) (zdg_ne hd6)
                    have hG2 : zbG T (5 * k + 2) := hG1.nx hM hO (by omega) (by omega) (zb2_1.2 hd8) (zd6_ne hd8)
                    have hG3 : zbG T (5 * k + 3) := hG2.nx hM hO (by omega) (by omega) (zb2_2.2 hs10) (zsi_ne hs10)
                    have hG4 : zbG T (5 * k + 4) := hG3.nx hM hO (by omega) (by omega) (zb2_3.2 hd11) (zd6_ne hd11)
                    have hto1 := zbo_s hM hO hto hG4 (by omega)
                    exact ep_eq (l2 := [(2, .int 0), (1, .int (nI (k + 1))), (0, .ref 112)]) rfl rfl rfl rfl (ih ((z_set (z_set (z_set Ja 118 (3 * k) ((zhr (I 116) T.tx.length 34) (5 * k) - 48)) 118 ((3 * k) + 1) ((zhr (I 116) T.tx.length 34) (5 * k + 1) - 48)) 118 ((3 * k) + 2) (if (zhr (I 116) T.tx.length 34) (5 * k + 1 + 1) = 45 then -((zhr (I 116) T.tx.length 34) (5 * k + 1 + 1 + 1) - 48) else (zhr (I 116) T.tx.length 34) (5 * k + 1 + 1 + 1) - 48)), (5 * k + 1 + 1 + 2, -1), 0) ⟨hB12, Or.inr (Or.inl ⟨k, rfl, rfl, rfl, hk7, hG4, hto1, hp13⟩)⟩)
                · obtain ⟨va, hva⟩ : ∃ z, z = (zp_sgn (zhr (I 116) T.tx.length 34) 6 (5 * k + 1 + 1, -1)).1 := ⟨_, rfl⟩
                  rw [← hva, zp_sgn_d hs10 hd11]
                  show eb_P _ _ 106 [(2, .int 1), (1, .int (nI k)), (0, .ref 112)] (.int va :: [.int (nI ((3 * k) + 2)), .ref 118]) (n, sl, kd, (zpw (z_set (z_set Ja 118 (3 * k) ((zhr (I 116) T.tx.length 34) (5 * k) - 48)) 118 ((3 * k) + 1) ((zhr (I 116) T.tx.length 34) (5 * k + 1) - 48)) (5 * k + 1 + 1 + 1, nI (5 * k + 1 + 1 + 1))), L, R1) _
                  refine ep_isN (k := ((3 * k) + 2)) dX11_brothers_106 (hF.lt (by decide)) (hF.lx (by decide)) (hF.ka (by decide) rfl) (by omega) (by decide) ?_
                  refine ep_eq (σ2 := (n, sl, kd, zpw (z_set (z_set (z_set Ja 118 (3 * k) ((zhr (I 116) T.tx.length 34) (5 * k) - 48)) 118 ((3 * k) + 1) ((zhr (I 116) T.tx.length 34) (5 * k + 1) - 48)) 118 ((3 * k) + 2) va) (5 * k + 1 + 1 + 1, nI (5 * k + 1 + 1 + 1)), L, R1)) rfl rfl rfl (by rw [zpw_st (by decide)]) ?_
                  have hB14 : zB n kd I Rf T 34 (z_set (z_set (z_set Ja 118 (3 * k) ((zhr (I 116) T.tx.length 34) (5 * k) - 48)) 118 ((3 * k) + 1) ((zhr (I 116) T.tx.length 34) (5 * k + 1) - 48)) 118 ((3 * k) + 2) va) R1 := hB9.st (by decide)
                  refine ep_iinc (v := (nI (k + 1))) (l' := [(1, .int ((nI (k + 1)))), (2, .int 1), (0, .ref 112)]) dX11_brothers_107 rfl (nI_1 _) (by decide) rfl ?_
                  refine ep_aload_n (i := 0) dX11_brothers_110 rfl rfl ?_
                  refine ep_bipush (v := 59) dX11_brothers_111 (by decide) ?_
                  refine ep_callV (M1 := mX11_passes) (rest := []) dX11_brothers_113 mlX11_132 mvX11_passes rfl (hF.lt (by decide)) (hF.kc (by decide) rfl) (Nat.le_of_ble_eq_true rfl) rfl (q_X11_passes (I := (z_set (z_set (z_set Ja 118 (3 * k) ((zhr (I 116) T.tx.length 34) (5 * k) - 48)) 118 ((3 * k) + 1) ((zhr (I 116) T.tx.length 34) (5 * k + 1) - 48)) 118 ((3 * k) + 2) va)) (L := L) (d + 18) hB14.P (s := (5 * k + 1 + 1 + 1, nI (5 * k + 1 + 1 + 1))) (show 5 * k + 1 + 1 + 1 < 1000 by omega) 59) zpb_ok ?_
                  rintro _ _ (⟨hbad, rfl, rfl⟩ | ⟨_, rfl, rfl⟩)
                  · exact absurd hbad.1 (nI_nm1 _ (by omega))
                  show eb_P _ _ 116 [(1, .int ((nI (k + 1)))), (2, .int 1), (0, .ref 112)] (.int 0 :: []) (n, sl, kd, (zpw (z_set (z_set (z_set Ja 118 (3 * k) ((zhr (I 116) T.tx.length 34) (5 * k) - 48)) 118 ((3 * k) + 1) ((zhr (I 116) T.tx.length 34) (5 * k + 1) - 48)) 118 ((3 * k) + 2) va) (5 * k + 1 + 1 + 1, nI (5 * k + 1 + 1 + 1))), L, R1) _
                  refine ep_istore_n (l' := [(2, .int 0), (1, .int ((nI (k + 1)))), (0, .ref 112)]) dX11_brothers_116 rfl (by decide) rfl ?_
                  refine ep_goto (tgt := 24) dX11_brothers_117 (by decide) ?_
                  have hG1 : zbG T (5 * k + 1) := hG.nx hM hO (by omega) (by omega) (zb2_0.2 hd6) (zdg_ne hd6)
                  have hG2 : zbG T (5 * k + 2) := hG1.nx hM hO (by omega) (by omega) (zb2_1.2 hd8) (zd6_ne hd8)
                  have hG3 : zbG T (5 * k + 3) := hG2.nx hM hO (by omega) (by omega) (zb2_2.2 hs10) (zsi_ne hs10)
                  exact ep_eq (l2 := [(2, .int 0), (1, .int (nI (k + 1))), (0, .ref 112)]) rfl rfl rfl rfl (ih ((z_set (z_set (z_set Ja 118 (3 * k) ((zhr (I 116) T.tx.length 34) (5 * k) - 48)) 118 ((3 * k) + 1) ((zhr (I 116) T.tx.length 34) (5 * k + 1) - 48)) 118 ((3 * k) + 2) va), (5 * k + 1 + 1 + 1, nI (5 * k + 1 + 1 + 1)), 0) ⟨hB14, Or.inr (Or.inr ⟨by omega, rfl, (5 * k + 1 + 1 + 1), 5 * k + 1 + 1 + 1, by omega, by omega, rfl, hG3.no hM hO (by omega) (fun g => hd11 (zb2_3.1 g)) (by omega) hl0⟩)⟩)
              · obtain ⟨va, hva⟩ : ∃ z, z = (zp_sgn (zhr (I 116) T.tx.length 34) 6 (5 * k + 1 + 1, -1)).1 := ⟨_, rfl⟩
                rw [← hva, zp_sgn_n (by omega) hs10]
                show eb_P _ _ 106 [(2, .int 1), (1, .int (nI k)), (0, .ref 112)] (.int va :: [.int (nI ((3 * k) + 2)), .ref 118]) (n, sl, kd, (zpw (z_set (z_set Ja 118 (3 * k) ((zhr (I 116) T.tx.length 34) (5 * k) - 48)) 118 ((3 * k) + 1) ((zhr (I 116) T.tx.length 34) (5 * k + 1) - 48)) (5 * k + 1 + 1 + 1, nI (5 * k + 1 + 1))), L, R1) _
                refine ep_isN (k := ((3 * k) + 2)) dX11_brothers_106 (hF.lt (by decide)) (hF.lx (by decide)) (hF.ka (by decide) rfl) (by omega) (by decide) ?_
                refine ep_eq (σ2 := (n, sl, kd, zpw (z_set (z_set (z_set Ja 118 (3 * k) ((zhr (I 116) T.tx.length 34) (5 * k) - 48)) 118 ((3 * k) + 1) ((zhr (I 116) T.tx.length 34) (5 * k + 1) - 48)) 118 ((3 * k) + 2) va) (5 * k + 1 + 1 + 1, nI (5 * k + 1 + 1)), L, R1)) rfl rfl rfl (by rw [zpw_st (by decide)]) ?_
                have hB15 : zB n kd I Rf T 34 (z_set (z_set (z_set Ja 118 (3 * k) ((zhr (I 116) T.tx.length 34) (5 * k) - 48)) 118 ((3 * k) + 1) ((zhr (I 116) T.tx.length 34) (5 * k + 1) - 48)) 118 ((3 * k) + 2) va) R1 := hB9.st (by decide)
                refine ep_iinc (v := (nI (k + 1))) (l' := [(1, .int ((nI (k + 1)))), (2, .int 1), (0, .ref 112)]) dX11_brothers_107 rfl (nI_1 _) (by decide) rfl ?_
                refine ep_aload_n (i := 0) dX11_brothers_110 rfl rfl ?_
                refine ep_bipush (v := 59) dX11_brothers_111 (by decide) ?_
                refine ep_callV (M1 := mX11_passes) (rest := []) dX11_brothers_113 mlX11_132 mvX11_passes rfl (hF.lt (by decide)) (hF.kc (by decide) rfl) (Nat.le_of_ble_eq_true rfl) rfl (q_X11_passes (I := (z_set (z_set (z_set Ja 118 (3 * k) ((zhr (I 116) T.tx.length 34) (5 * k) - 48)) 118 ((3 * k) + 1) ((zhr (I 116) T.tx.length 34) (5 * k + 1) - 48)) 118 ((3 * k) + 2) va)) (L := L) (d + 18) hB15.P (s := (5 * k + 1 + 1 + 1, nI (5 * k + 1 + 1))) (show 5 * k + 1 + 1 + 1 < 1000 by omega) 59) zpb_ok ?_
                rintro _ _ (⟨hbad, rfl, rfl⟩ | ⟨_, rfl, rfl⟩)
                · exact absurd hbad.1 (nI_nm1 _ (by omega))
                show eb_P _ _ 116 [(1, .int ((nI (k + 1)))), (2, .int 1), (0, .ref 112)] (.int 0 :: []) (n, sl, kd, (zpw (z_set (z_set (z_set Ja 118 (3 * k) ((zhr (I 116) T.tx.length 34) (5 * k) - 48)) 118 ((3 * k) + 1) ((zhr (I 116) T.tx.length 34) (5 * k + 1) - 48)) 118 ((3 * k) + 2) va) (5 * k + 1 + 1 + 1, nI (5 * k + 1 + 1))), L, R1) _
                refine ep_istore_n (l' := [(2, .int 0), (1, .int ((nI (k + 1)))), (0, .ref 112)]) dX11_brothers_116 rfl (by decide) rfl ?_
                refine ep_goto (tgt := 24) dX11_brothers_117 (by decide) ?_
                have hG1 : zbG T (5 * k + 1) := hG.nx hM hO (by omega) (by omega) (zb2_0.2 hd6) (zdg_ne hd6)
                have hG2 : zbG T (5 * k + 2) := hG1.nx hM hO (by omega) (by omega) (zb2_1.2 hd8) (zd6_ne hd8)
                exact ep_eq (l2 := [(2, .int 0), (1, .int (nI (k + 1))), (0, .ref 112)]) rfl rfl rfl rfl (ih ((z_set (z_set (z_set Ja 118 (3 * k) ((zhr (I 116) T.tx.length 34) (5 * k) - 48)) 118 ((3 * k) + 1) ((zhr (I 116) T.tx.length 34) (5 * k + 1) - 48)) 118 ((3 * k) + 2) va), (5 * k + 1 + 1 + 1, nI (5 * k + 1 + 1)), 0) ⟨hB15, Or.inr (Or.inr ⟨by omega, rfl, (5 * k + 1 + 1), 5 * k + 1 + 1 + 1, by omega, by omega, rfl, hG2.no hM hO (by omega) (fun g => hs10 (zb2_2.1 g)) (by omega) hl0⟩)⟩)
            · rw [zp_one_n hd8]
              show eb_P _ _ 90 [(2, .int 1), (1, .int (nI k)), (0, .ref 112)] (.int 0 :: [.int (nI ((3 * k) + 1)), .ref 118]) (n, sl, kd, (zpw (z_set Ja 118 (3 * k) ((zhr (I 116) T.tx.length 34) (5 * k) - 48)) (5 * k + 1, nI (5 * k + 1))), L, R1) _
              refine ep_isN (k := ((3 * k) + 1)) dX11_brothers_90 (hF.lt (by decide)) (hF.lx (by decide)) (hF.ka (by decide) rfl) (by omega) (by decide) ?_
              refine ep_eq (σ2 := (n, sl, kd, zpw (z_set (z_set Ja 118 (3 * k) ((zhr (I 116) T.tx.length 34) (5 * k) - 48)) 118 ((3 * k) + 1) 0) (5 * k + 1, nI (5 * k + 1)), L, R1)) rfl rfl rfl (by rw [zpw_st (by decide)]) ?_
              have hB16 : zB n kd I Rf T 34 (z_set (z_set Ja 118 (3 * k) ((zhr (I 116) T.tx.length 34) (5 * k) - 48)) 118 ((3 * k) + 1) 0) R1 := hB7.st (by decide)
              refine ep_aload_n (i := 0) dX11_brothers_91 rfl rfl ?_
              refine ep_getR dX11_brothers_92 flX11_31 (hF.lt (by decide)) (hF.kc (by decide) rfl) (hF.pt 112 rfl) ?_
              refine ep_iconst (v := 3) dX11_brothers_95 (by decide) ?_
              refine ep_iload_n (i := 1) dX11_brothers_96 rfl rfl ?_
              refine ep_imul dX11_brothers_97 ?_
              refine ep_topE (y := nI (3 * k)) (nI_mul _ _) ?_
              refine ep_iconst (v := 2) dX11_brothers_98 (by decide) ?_
              refine ep_iadd dX11_brothers_99 ?_
              refine ep_topE (y := nI ((3 * k) + 2)) (nI_add _ _) ?_
              refine ep_aload_n (i := 0) dX11_brothers_100 rfl rfl ?_
              refine ep_bipush (v := 6) dX11_brothers_101 (by decide) ?_
              refine ep_callV (M1 := mX11_signedOf) (rest := [.int (nI ((3 * k) + 2)), .ref 118]) dX11_brothers_103 mlX11_150 mvX11_signedOf rfl (hF.lt (by decide)) (hF.kc (by decide) rfl) (Nat.le_of_ble_eq_true rfl) rfl (q_X11_signedOf (I := (z_set (z_set Ja 118 (3 * k) ((zhr (I 116) T.tx.length 34) (5 * k) - 48)) 118 ((3 * k) + 1) 0)) (L := L) (d + 16) hB16.P (s := (5 * k + 1, nI (5 * k + 1))) (show 5 * k + 1 < 900 by omega) (k := 6) z_hk6) (fun _ _ g => Or.inl (by rw [g.1])) ?_
              rintro _ _ ⟨rfl, rfl⟩
              obtain ⟨va, hva⟩ : ∃ z, z = (zp_sgn (zhr (I 116) T.tx.length 34) 6 (5 * k + 1, nI (5 * k + 1))).1 := ⟨_, rfl⟩
              rw [← hva, zp_sgn_w (nI_nm1 _ (by omega))]
              show eb_P _ _ 106 [(2, .int 1), (1, .int (nI k)), (0, .ref 112)] (.int va :: [.int (nI ((3 * k) + 2)), .ref 118]) (n, sl, kd, (zpw (z_set (z_set Ja 118 (3 * k) ((zhr (I 116) T.tx.length 34) (5 * k) - 48)) 118 ((3 * k) + 1) 0) (5 * k + 1 + 1, nI (5 * k + 1))), L, R1) _
              refine ep_isN (k := ((3 * k) + 2)) dX11_brothers_106 (hF.lt (by decide)) (hF.lx (by decide)) (hF.ka (by decide) rfl) (by omega) (by decide) ?_
              refine ep_eq (σ2 := (n, sl, kd, zpw (z_set (z_set (z_set Ja 118 (3 * k) ((zhr (I 116) T.tx.length 34) (5 * k) - 48)) 118 ((3 * k) + 1) 0) 118 ((3 * k) + 2) va) (5 * k + 1 + 1, nI (5 * k + 1)), L, R1)) rfl rfl rfl (by rw [zpw_st (by decide)]) ?_
              have hB17 : zB n kd I Rf T 34 (z_set (z_set (z_set Ja 118 (3 * k) ((zhr (I 116) T.tx.length 34) (5 * k) - 48)) 118 ((3 * k) + 1) 0) 118 ((3 * k) + 2) va) R1 := hB16.st (by decide)
              refine ep_iinc (v := (nI (k + 1))) (l' := [(1, .int ((nI (k + 1)))), (2, .int 1), (0, .ref 112)]) dX11_brothers_107 rfl (nI_1 _) (by decide) rfl ?_
              refine ep_aload_n (i := 0) dX11_brothers_110 rfl rfl ?_
              refine ep_bipush (v := 59) dX11_brothers_111 (by decide) ?_
              refine ep_callV (M1 := mX11_passes) (rest := []) dX11_brothers_113 mlX11_132 mvX11_passes rfl (hF.lt (by decide)) (hF.kc (by decide) rfl) (Nat.le_of_ble_eq_true rfl) rfl (q_X11_passes (I := (z_set (z_set (z_set Ja 118 (3 * k) ((zhr (I 116) T.tx.length 34) (5 * k) - 48)) 118 ((3 * k) + 1) 0) 118 ((3 * k) + 2) va)) (L := L) (d + 18) hB17.P (s := (5 * k + 1 + 1, nI (5 * k + 1))) (show 5 * k + 1 + 1 < 1000 by omega) 59) zpb_ok ?_
              rintro _ _ (⟨hbad, rfl, rfl⟩ | ⟨_, rfl, rfl⟩)
              · exact absurd hbad.1 (nI_nm1 _ (by omega))
              show eb_P _ _ 116 [(1, .int ((nI (k + 1)))), (2, .int 1), (0, .ref 112)] (.int 0 :: []) (n, sl, kd, (zpw (z_set (z_set (z_set Ja 118 (3 * k) ((zhr (I 116) T.tx.length 34) (5 * k) - 48)) 118 ((3 * k) + 1) 0) 118 ((3 * k) + 2) va) (5 * k + 1 + 1, nI (5 * k + 1))), L, R1) _
              refine ep_istore_n (l' := [(2, .int 0), (1, .int ((nI (k + 1)))), (0, .ref 112)]) dX11_brothers_116 rfl (by decide) rfl ?_
              refine ep_goto (tgt := 24) dX11_brothers_117 (by decide) ?_
              have hG1 : zbG T (5 * k + 1) := hG.nx hM hO (by omega) (by omega) (zb2_0.2 hd6) (zdg_ne hd6)
              exact ep_eq (l2 := [(2, .int 0), (1, .int (nI (k + 1))), (0, .ref 112)]) rfl rfl rfl rfl (ih ((z_set (z_set (z_set Ja 118 (3 * k) ((zhr (I 116) T.tx.length 34) (5 * k) - 48)) 118 ((3 * k) + 1) 0) 118 ((3 * k) + 2) va), (5 * k + 1 + 1, nI (5 * k + 1)), 0) ⟨hB17, Or.inr (Or.inr ⟨by omega, rfl, (5 * k + 1), 5 * k + 1 + 1, by omega, by omega, rfl, hG1.no hM hO (by omega) (fun g => hd8 (zb2_1.1 g)) (by omega) hl0⟩)⟩)
          · rw [zp_one_n hd6]
            show eb_P _ _ 72 [(2, .int 1), (1, .int (nI k)), (0, .ref 112)] (.int 0 :: [.int (nI (3 * k)), .ref 118]) (n, sl, kd, (zpw Ja (5 * k, nI (5 * k))), L, R1) _
            refine ep_isN (k := (3 * k)) dX11_brothers_72 (hF.lt (by decide)) (hF.lx (by decide)) (hF.ka (by decide) rfl) (by omega) (by decide) ?_
            refine ep_eq (σ2 := (n, sl, kd, zpw (z_set Ja 118 (3 * k) 0) (5 * k, nI (5 * k)), L, R1)) rfl rfl rfl (by rw [zpw_st (by decide)]) ?_
            have hB18 : zB n kd I Rf T 34 (z_set Ja 118 (3 * k) 0) R1 := hBa.st (by decide)
            refine ep_aload_n (i := 0) dX11_brothers_73 rfl rfl ?_
            refine ep_getR dX11_brothers_74 flX11_31 (hF.lt (by decide)) (hF.kc (by decide) rfl) (hF.pt 112 rfl) ?_
            refine ep_iconst (v := 3) dX11_brothers_77 (by decide) ?_
            refine ep_iload_n (i := 1) dX11_brothers_78 rfl rfl ?_
            refine ep_imul dX11_brothers_79 ?_
            refine ep_topE (y := nI (3 * k)) (nI_mul _ _) ?_
            refine ep_iconst (v := 1) dX11_brothers_80 (by decide) ?_
            refine ep_iadd dX11_brothers_81 ?_
            refine ep_topE (y := nI ((3 * k) + 1)) (nI_add _ _) ?_
            refine ep_aload_n (i := 0) dX11_brothers_82 rfl rfl ?_
            refine ep_bipush (v := 48) dX11_brothers_83 (by decide) ?_
            refine ep_bipush (v := 6) dX11_brothers_85 (by decide) ?_
            refine ep_callV (M1 := mX11_oneOf) (rest := [.int (nI ((3 * k) + 1)), .ref 118]) dX11_brothers_87 mlX11_140 mvX11_oneOf rfl (hF.lt (by decide)) (hF.kc (by decide) rfl) (Nat.le_of_ble_eq_true rfl) rfl (q_X11_oneOf (I := (z_set Ja 118 (3 * k) 0)) (L := L) (d + 17) hB18.P (s := (5 * k, nI (5 * k))) (show 5 * k < 1000 by omega) (a := 48) (k := 6) (by decide) z_hk6) (fun _ _ g => Or.inl (by rw [g.1])) ?_
            rintro _ _ ⟨rfl, rfl⟩
            rw [zp_one_w (nI_nm1 _ (by omega))]
            show eb_P _ _ 90 [(2, .int 1), (1, .int (nI k)), (0, .ref 112)] (.int 0 :: [.int (nI ((3 * k) + 1)), .ref 118]) (n, sl, kd, (zpw (z_set Ja 118 (3 * k) 0) (5 * k, nI (5 * k))), L, R1) _
            refine ep_isN (k := ((3 * k) + 1)) dX11_brothers_90 (hF.lt (by decide)) (hF.lx (by decide)) (hF.ka (by decide) rfl) (by omega) (by decide) ?_
            refine ep_eq (σ2 := (n, sl, kd, zpw (z_set (z_set Ja 118 (3 * k) 0) 118 ((3 * k) + 1) 0) (5 * k, nI (5 * k)), L, R1)) rfl rfl rfl (by rw [zpw_st (by decide)]) ?_
            have hB19 : zB n kd I Rf T 34 (z_set (z_set Ja 118 (3 * k) 0) 118 ((3 * k) + 1) 0) R1 := hB18.st (by decide)
            refine ep_aload_n (i := 0) dX11_brothers_91 rfl rfl ?_
            refine ep_getR dX11_brothers_92 flX11_31 (hF.lt (by decide)) (hF.kc (by decide) rfl) (hF.pt 112 rfl) ?_
            refine ep_iconst (v := 3) dX11_brothers_95 (by decide) ?_
            refine ep_iload_n (i := 1) dX11_brothers_96 rfl rfl ?_
            refine ep_imul dX11_brothers_97 ?_
            refine ep_topE (y := nI (3 * k)) (nI_mul _ _) ?_
            refine ep_iconst (v := 2) dX11_brothers_98 (by decide) ?_
            refine ep_iadd dX11_brothers_99 ?_
            refine ep_topE (y := nI ((3 * k) + 2)) (nI_add _ _) ?_
            refine ep_aload_n (i := 0) dX11_brothers_100 rfl rfl ?_
            refine ep_bipush (v := 6) dX11_brothers_101 (by decide) ?_
            refine ep_callV (M1 := mX11_signedOf) (rest := [.int (nI ((3 * k) + 2)), .ref 118]) dX11_brothers_103 mlX11_150 mvX11_signedOf rfl (hF.lt (by decide)) (hF.kc (by decide) rfl) (Nat.le_of_ble_eq_true rfl) rfl (q_X11_signedOf (I := (z_set (z_set Ja 118 (3 * k) 0) 118 ((3 * k) + 1) 0)) (L := L) (d + 16) hB19.P (s := (5 * k, nI (5 * k))) (show 5 * k < 900 by omega) (k := 6) z_hk6) (fun _ _ g => Or.inl (by rw [g.1])) ?_
            rintro _ _ ⟨rfl, rfl⟩
            obtain ⟨va, hva⟩ : ∃ z, z = (zp_sgn (zhr (I 116) T.tx.length 34) 6 (5 * k, nI (5 * k))).1 := ⟨_, rfl⟩
            rw [← hva, zp_sgn_w (nI_nm1 _ (by omega))]
            show eb_P _ _ 106 [(2, .int 1), (1, .int (nI k)), (0, .ref 112)] (.int va :: [.int (nI ((3 * k) + 2)), .ref 118]) (n, sl, kd, (zpw (z_set (z_set Ja 118 (3 * k) 0) 118 ((3 * k) + 1) 0) (5 * k + 1, nI (5 * k))), L, R1) _
            refine ep_isN (k := ((3 * k) + 2)) dX11_brothers_106 (hF.lt (by decide)) (hF.lx (by decide)) (hF.ka (by decide) rfl) (by omega) (by decide) ?_
            refine ep_eq (σ2 := (n, sl, kd, zpw (z_set (z_set (z_set Ja 118 (3 * k) 0) 118 ((3 * k) + 1) 0) 118 ((3 * k) + 2) va) (5 * k + 1, nI (5 * k)), L, R1)) rfl rfl rfl (by rw [zpw_st (by decide)]) ?_
            have hB20 : zB n kd I Rf T 34 (z_set (z_set (z_set Ja 118 (3 * k) 0) 118 ((3 * k) + 1) 0) 118 ((3 * k) + 2) va) R1 := hB19.st (by decide)
            refine ep_iinc (v := (nI (k + 1))) (l' := [(1, .int ((nI (k + 1)))), (2, .int 1), (0, .ref 112)]) dX11_brothers_107 rfl (nI_1 _) (by decide) rfl ?_
            refine ep_aload_n (i := 0) dX11_brothers_110 rfl rfl ?_
            refine ep_bipush (v := 59) dX11_brothers_111 (by decide) ?_
            refine ep_callV (M1 := mX11_passes) (rest := []) dX11_brothers_113 mlX11_132 mvX11_passes rfl (hF.lt (by decide)) (hF.kc (by decide) rfl) (Nat.le_of_ble_eq_true rfl) rfl (q_X11_passes (I := (z_set (z_set (z_set Ja 118 (3 * k) 0) 118 ((3 * k) + 1) 0) 118 ((3 * k) + 2) va)) (L := L) (d + 18) hB20.P (s := (5 * k + 1, nI (5 * k))) (show 5 * k + 1 < 1000 by omega) 59) zpb_ok ?_
            rintro _ _ (⟨hbad, rfl, rfl⟩ | ⟨_, rfl, rfl⟩)
            · exact absurd hbad.1 (nI_nm1 _ (by omega))
            show eb_P _ _ 116 [(1, .int ((nI (k + 1)))), (2, .int 1), (0, .ref 112)] (.int 0 :: []) (n, sl, kd, (zpw (z_set (z_set (z_set Ja 118 (3 * k) 0) 118 ((3 * k) + 1) 0) 118 ((3 * k) + 2) va) (5 * k + 1, nI (5 * k))), L, R1) _
            refine ep_istore_n (l' := [(2, .int 0), (1, .int ((nI (k + 1)))), (0, .ref 112)]) dX11_brothers_116 rfl (by decide) rfl ?_
            refine ep_goto (tgt := 24) dX11_brothers_117 (by decide) ?_
            exact ep_eq (l2 := [(2, .int 0), (1, .int (nI (k + 1))), (0, .ref 112)]) rfl rfl rfl rfl (ih ((z_set (z_set (z_set Ja 118 (3 * k) 0) 118 ((3 * k) + 1) 0) 118 ((3 * k) + 2) va), (5 * k + 1, nI (5 * k)), 0) ⟨hB20, Or.inr (Or.inr ⟨by omega, rfl, (5 * k), 5 * k + 1, by omega, by omega, rfl, hG.no hM hO (by omega) (fun g => hd6 (zb2_0.1 g)) (by omega) hl0⟩)⟩)
        · skip
          refine ep_aload_n (i := 0) dX11_brothers_46 rfl rfl ?_
          refine ep_aload_n (i := 0) dX11_brothers_47 rfl rfl ?_
          refine ep_getI dX11_brothers_48 flX11_114 (hF.lt (by decide)) (hF.kc (by decide) rfl) ?_
          refine ep_topE (y := nI (5 * k)) zpw_13 ?_
          refine ep_callV (M1 := mX11_fault) (rest := []) dX11_brothers_51 mlX11_136 mvX11_fault rfl (hF.lt (by decide)) (hF.kc (by decide) rfl) (Nat.le_of_ble_eq_true rfl) rfl (q_X11_fault (I := Ja) (L := L) (d + 18) hBa.P (s := (5 * k, -1)) (show 5 * k < 1000 by omega) (5 * k)) (eb_vok rfl) ?_
          rintro _ _ ⟨rfl, rfl⟩
          rw [show zp_fault (5 * k) (5 * k, -1) = (5 * k, nI (5 * k)) from rfl]
          show eb_P _ _ 54 [(2, .int 1), (1, .int (nI k)), (0, .ref 112)] [] (n, sl, kd, (zpw Ja (5 * k, nI (5 * k))), L, R1) _
          refine ep_goto (tgt := 107) dX11_brothers_54 (by decide) ?_
          refine ep_iinc (v := (nI (k + 1))) (l' := [(1, .int ((nI (k + 1)))), (2, .int 1), (0, .ref 112)]) dX11_brothers_107 rfl (nI_1 _) (by decide) rfl ?_
          refine ep_aload_n (i := 0) dX11_brothers_110 rfl rfl ?_
          refine ep_bipush (v := 59) dX11_brothers_111 (by decide) ?_
          refine ep_callV (M1 := mX11_passes) (rest := []) dX11_brothers_113 mlX11_132 mvX11_passes rfl (hF.lt (by decide)) (hF.kc (by decide) rfl) (Nat.le_of_ble_eq_true rfl) rfl (q_X11_passes (I := Ja) (L := L) (d + 18) hBa.P (s := (5 * k, nI (5 * k))) (show 5 * k < 1000 by omega) 59) zpb_ok ?_
          rintro _ _ (⟨hbad, rfl, rfl⟩ | ⟨_, rfl, rfl⟩)
          · exact absurd hbad.1 (nI_nm1 _ (by omega))
          show eb_P _ _ 116 [(1, .int ((nI (k + 1)))), (2, .int 1), (0, .ref 112)] (.int 0 :: []) (n, sl, kd, (zpw Ja (5 * k, nI (5 * k))), L, R1) _
          refine ep_istore_n (l' := [(2, .int 0), (1, .int ((nI (k + 1)))), (0, .ref 112)]) dX11_brothers_116 rfl (by decide) rfl ?_
          refine ep_goto (tgt := 24) dX11_brothers_117 (by decide) ?_
          have hk7 : T.c + k = 7 := z_nIinj (Decidable.not_not.1 c5) (by omega) (by decide)
          have hk6 : k < 7 := by have h35 := hG; rcases Nat.lt_or_ge k 7 with g | g; exact g; exact absurd (Or.inl (by omega)) (h35.2 34 (by omega))
          exact ep_eq (l2 := [(2, .int 0), (1, .int (nI (k + 1))), (0, .ref 112)]) rfl rfl rfl rfl (ih (Ja, (5 * k, nI (5 * k)), 0) ⟨hBa, Or.inr (Or.inr ⟨by omega, rfl, (5 * k), 5 * k, by omega, by omega, rfl, zbG.fu hO.c hG hk7 hk6 hl0 hx8⟩)⟩)
      · replace hma : ma = 0 := hma; replace hsa : sa = (5 * j + 4, -1) := hsa; subst hsa hma; replace hBa : zB n kd I Rf T 34 Ja R1 := hBa
        replace hto : zbo T Ja (j + 1) := hto
        show eb_P _ _ 24 [(2, .int 0), (1, .int (nI k)), (0, .ref 112)] [] (n, sl, kd, (zpw Ja (5 * j + 4, -1)), L, R1) _
        refine ep_iload_n (i := 2) dX11_brothers_24 rfl rfl ?_
        refine ep_if_eq (tgt := 120) dX11_brothers_25 (by decide) (fun c21 => ?_) (fun c21 => absurd (by decide) c21)
        refine ep_aload_n (i := 0) dX11_brothers_120 rfl rfl ?_
        refine ep_callV (M1 := mX11_wasRight) (rest := []) dX11_brothers_121 mlX11_147 mvX11_wasRight rfl (hF.lt (by decide)) (hF.kc (by decide) rfl) (Nat.le_of_ble_eq_true rfl) rfl (q_X11_wasRight (I := Ja) (L := L) (d + 17) hBa.P (s := (5 * j + 4, -1)) (show 5 * j + 4 < 1000 by omega)) (fun _ _ g => Or.inl (by rw [g.1])) ?_
        by_cases hl22 : 5 * j + 4 < T.tx.length
        · rw [show zp_end T.tx.length (5 * j + 4, -1) = (5 * j + 4, nI (5 * j + 4)) from if_pos hl22]
          rintro _ _ ⟨rfl, ⟨hbad, rfl⟩ | ⟨_, rfl⟩⟩
          · exact absurd hbad (nI_nm1 _ (by omega))
          show eb_P _ _ 124 [(2, .int 0), (1, .int (nI k)), (0, .ref 112)] (.int 0 :: []) (n, sl, kd, (zpw Ja (5 * j + 4, nI (5 * j + 4))), L, R1) _
          refine ep_if_ne (tgt := 134) dX11_brothers_124 (by decide) (fun c23 => absurd c23 (by decide)) (fun c23 => ?_)
          refine ep_iconst (v := (-1)) dX11_brothers_127 (by decide) ?_
          refine ep_aload_n (i := 0) dX11_brothers_128 rfl rfl ?_
          refine ep_getI dX11_brothers_129 flX11_117 (hF.lt (by decide)) (hF.kc (by decide) rfl) ?_
          refine ep_topE (y := nI (5 * j + 4)) zpw_14 ?_
          refine ep_isub dX11_brothers_132 ?_
          refine ep_iret dX11_brothers_133 rfl rfl ?_
          rw [s_brothers_n (p := 5 * j + 4) hl0 (by omega) ((zbG.en hM hO hck hG hns).1 hl22)]
          exact hBa.no hM _
        · rw [show zp_end T.tx.length (5 * j + 4, -1) = (5 * j + 4, -1) from if_neg hl22]
          rintro _ _ ⟨rfl, ⟨_, rfl⟩ | ⟨hbad, rfl⟩⟩
          rotate_left
          · exact absurd rfl hbad
          show eb_P _ _ 124 [(2, .int 0), (1, .int (nI k)), (0, .ref 112)] (.int 1 :: []) (n, sl, kd, (zpw Ja (5 * j + 4, -1)), L, R1) _
          refine ep_if_ne (tgt := 134) dX11_brothers_124 (by decide) (fun c24 => ?_) (fun c24 => absurd (by decide) c24)
          refine ep_iconst (v := 0) dX11_brothers_134 (by decide) ?_
          refine ep_istore_n (l' := [(3, .int 0), (2, .int 0), (1, .int (nI k)), (0, .ref 112)]) dX11_brothers_135 rfl (by decide) rfl ?_
          have hfin := (zbG.en hM hO hck hG hns).2 hl22
          have hM2 := hBa.fin hM (5 * j + 4, -1)
          obtain ⟨cm, _, hcm7, hcm, _⟩ := hM2.kp; replace hcm7 : cm ≤ T.c := hcm7
          refine ep_eq (l2 := [(3, .int (nI 0)), (2, .int 0), (1, .int (nI k)), (0, .ref 112)]) (σ2 := (n, sl, kd, zpw Ja (5 * j + 4, -1), L, R1)) rfl (by rw [nI_0]) rfl rfl ?_
          refine ep_for k (fun i (a : Nat → Nat → Int32) => ([(3, .int (nI i)), (2, .int 0), (1, .int (nI k)), (0, .ref 112)], (n, sl, kd, a, L, R1))) (fun i a => (∀ c, c ≠ 112 → c ≠ 113 → a c = zpw Ja (5 * j + 4, -1) c) ∧ (∀ q, q ≠ 1 → a 112 q = zpw Ja (5 * j + 4, -1) 112 q) ∧ a 112 1 = nI (T.c + i) ∧ ∀ q, q < 26 → a 113 q = zbx T i q) ?_ ?_ k 0 (zpw Ja (5 * j + 4, -1)) (by omega) ⟨fun _ _ _ => rfl, fun _ _ => rfl, hM2.c, fun q hq => by rw [zbx_0]; exact hM2.x q hq⟩
          · rintro i Ka hi ⟨hKa, hKb, hKc, hKd⟩ ih2
            show eb_P _ _ 136 [(3, .int (nI i)), (2, .int 0), (1, .int (nI k)), (0, .ref 112)] [] (n, sl, kd, Ka, L, R1) _
            refine ep_iload_n (i := 3) dX11_brothers_136 rfl rfl ?_
            refine ep_iload_n (i := 1) dX11_brothers_137 rfl rfl ?_
            refine ep_icmp_ge (tgt := 218) dX11_brothers_138 (by decide) (fun c25 => absurd c25 (nI_ge hi (by omega))) (fun c25 => ?_)
            refine ep_aload_n (i := 0) dX11_brothers_141 rfl rfl ?_
            refine ep_getR dX11_brothers_142 flX11_9 (hF.lt (by decide)) (hF.kc (by decide) rfl) (hF.pt 107 rfl) ?_
            refine ep_aload_n (i := 0) dX11_brothers_145 rfl rfl ?_
            refine ep_getI dX11_brothers_146 flX11_95 (hF.lt (by decide)) (hF.kc (by decide) rfl) ?_
            refine ep_topE (y := nI (T.c + i)) hKc ?_
            refine ep_aload_n (i := 0) dX11_brothers_149 rfl rfl ?_
            refine ep_getR dX11_brothers_150 flX11_31 (hF.lt (by decide)) (hF.kc (by decide) rfl) (hF.pt 112 rfl) ?_
            refine ep_iconst (v := 3) dX11_brothers_153 (by decide) ?_
            refine ep_iload_n (i := 3) dX11_brothers_154 rfl rfl ?_
            refine ep_imul dX11_brothers_155 ?_
            refine ep_topE (y := nI (3 * i)) (nI_mul _ _) ?_
            refine ep_iaN (k := (3 * i)) dX11_brothers_156 (hF.lt (by decide)) (hF.ka (by decide) rfl) (by omega) (by decide) ?_
            refine ep_topE (y := T.tt (5 * i) - 48) (by rw [hKa 118 (by decide) (by decide), zpw_ne (by decide)]; exact (hto i (by omega)).1) ?_
            refine ep_isN (k := (T.c + i)) dX11_brothers_157 (hF.lt (by decide)) (hF.lx (by decide)) (hF.ka (by decide) rfl) (by omega) (by decide) ?_
            refine ep_nmI (fun I26 hI26 => ?_)
            refine ep_aload_n (i := 0) dX11_brothers_158 rfl rfl ?_
            refine ep_getR dX11_brothers_159 flX11_9 (hF.lt (by decide)) (hF.kc (by decide) rfl) (hF.pt 107 rfl) ?_
            refine ep_bipush (v := 7) dX11_brothers_162 (by decide) ?_
            refine ep_aload_n (i := 0) dX11_brothers_164 rfl rfl ?_
            refine ep_getI dX11_brothers_165 flX11_95 (hF.lt (by decide)) (hF.kc (by decide) rfl) ?_
            refine ep_topE (y := Ka 112 1) (by rw [hI26, z_set_ne (by decide)]) ?_
            refine ep_topE (y := nI (T.c + i)) hKc ?_
            refine ep_iadd dX11_brothers_168 ?_
            refine ep_topE (y := nI (7 + (T.c + i))) (nI_add _ _) ?_
            refine ep_aload_n (i := 0) dX11_brothers_169 rfl rfl ?_
            refine ep_getR dX11_brothers_170 flX11_31 (hF.lt (by decide)) (hF.kc (by decide) rfl) (hF.pt 112 rfl) ?_
            refine ep_iconst (v := 3) dX11_brothers_173 (by decide) ?_
            refine ep_iload_n (i := 3) dX11_brothers_174 rfl rfl ?_
            refine ep_imul dX11_brothers_175 ?_
            refine ep_topE (y := nI (3 * i)) (nI_mul _ _) ?_
            refine ep_iconst (v := 1) dX11_brothers_176 (by decide) ?_
            refine ep_iadd dX11_brothers_177 ?_
            refine ep_topE (y := nI ((3 * i) + 1)) (nI_add _ _) ?_
            refine ep_iaN (k := ((3 * i) + 1)) dX11_brothers_178 (hF.lt (by decide)) (hF.ka (by decide) rfl) (by omega) (by decide) ?_
            refine ep_topE (y := Ka 118 ((3 * i) + 1)) (by rw [hI26, z_set_ne (by decide)]) ?_
            refine ep_topE (y := T.tt (5 * i + 1) - 48) (by rw [hKa 118 (by decide) (by decide), zpw_ne (by decide)]; exact (hto i (by omega)).2.1) ?_
            refine ep_isN (k := (7 + (T.c + i))) dX11_brothers_179 (hF.lt (by decide)) (hF.lx (by decide)) (hF.ka (by decide) rfl) (by omega) (by decide) ?_
            refine ep_nmI (fun I27 hI27 => ?_)
            refine ep_aload_n (i := 0) dX11_brothers_180 rfl rfl ?_
            refine ep_getR dX11_brothers_181 flX11_9 (hF.lt (by decide)) (hF.kc (by decide) rfl) (hF.pt 107 rfl) ?_
            refine ep_bipush (v := 14) dX11_brothers_184 (by decide) ?_
            refine ep_aload_n (i := 0) dX11_brothers_186 rfl rfl ?_
            refine ep_getI dX11_brothers_187 flX11_95 (hF.lt (by decide)) (hF.kc (by decide) rfl) ?_
            refine ep_topE (y := Ka 112 1) (by rw [hI27, z_set_ne (by decide), hI26, z_set_ne (by decide)]) ?_
            refine ep_topE (y := nI (T.c + i)) hKc ?_
            refine ep_iadd dX11_brothers_190 ?_
            refine ep_topE (y := nI (14 + (T.c + i))) (nI_add _ _) ?_
            refine ep_aload_n (i := 0) dX11_brothers_191 rfl rfl ?_
            refine ep_getR dX11_brothers_192 flX11_31 (hF.lt (by decide)) (hF.kc (by decide) rfl) (hF.pt 112 rfl) ?_
            refine ep_iconst (v := 3) dX11_brothers_195 (by decide) ?_
            refine ep_iload_n (i := 3) dX11_brothers_196 rfl rfl ?_
            refine ep_imul dX11_brothers_197 ?_
            refine ep_topE (y := nI (3 * i)) (nI_mul _ _) ?_
            refine ep_iconst (v := 2) dX11_brothers_198 (by decide) ?_
            refine ep_iadd dX11_brothers_199 ?_
            refine ep_topE (y := nI ((3 * i) + 2)) (nI_add _ _) ?_
            refine ep_iaN (k := ((3 * i) + 2)) dX11_brothers_200 (hF.lt (by decide)) (hF.ka (by decide) rfl) (by omega) (by decide) ?_
            refine ep_topE (y := Ka 118 ((3 * i) + 2)) (by rw [hI27, z_set_ne (by decide), hI26, z_set_ne (by decide)]) ?_
            refine ep_topE (y := z_sg T.tt (5 * i + 2)) (by rw [hKa 118 (by decide) (by decide), zpw_ne (by decide)]; exact (hto i (by omega)).2.2) ?_
            refine ep_isN (k := (14 + (T.c + i))) dX11_brothers_201 (hF.lt (by decide)) (hF.lx (by decide)) (hF.ka (by decide) rfl) (by omega) (by decide) ?_
            refine ep_nmI (fun I28 hI28 => ?_)
            refine ep_aload_n (i := 0) dX11_brothers_202 rfl rfl ?_
            refine ep_dup dX11_brothers_203 rfl ?_
            refine ep_getI dX11_brothers_204 flX11_95 (hF.lt (by decide)) (hF.kc (by decide) rfl) ?_
            refine ep_topE (y := Ka 112 1) (by rw [hI28, z_set_ne (by decide), hI27, z_set_ne (by decide), hI26, z_set_ne (by decide)]) ?_
            refine ep_topE (y := nI (T.c + i)) hKc ?_
            refine ep_iconst (v := 1) dX11_brothers_207 (by decide) ?_
            refine ep_iadd dX11_brothers_208 ?_
            refine ep_topE (y := nI ((T.c + i) + 1)) (nI_add _ _) ?_
            refine ep_pI dX11_brothers_209 plX11_95 (hF.lt (by decide)) (hF.lx (by decide)) (hF.kc (by decide) rfl) rfl rfl ?_
            refine ep_nmI (fun I29 hI29 => ?_)
            refine ep_iinc (v := (nI (i + 1))) (l' := [(3, .int ((nI (i + 1)))), (2, .int 0), (1, .int (nI k)), (0, .ref 112)]) dX11_brothers_212 rfl (nI_1 _) (by decide) rfl ?_
            refine ep_goto (tgt := 136) dX11_brothers_215 (by decide) ?_
            have hck2 : T.c + i < 7 := by omega
            exact ep_eq (l2 := [(3, .int (nI (i + 1))), (2, .int 0), (1, .int (nI k)), (0, .ref 112)]) rfl rfl rfl rfl (ih2 I29 ⟨fun c h1 h2 => by rw [hI29, z_set_ne h1, hI28, z_set_ne h2, hI27, z_set_ne h2, hI26, z_set_ne h2]; exact hKa c h1 h2, fun q hq => by rw [hI29, z_set_nk hq, hI28, z_set_ne (by decide), hI27, z_set_ne (by decide), hI26, z_set_ne (by decide)]; exact hKb q hq, by rw [hI29, z_set_at]; rfl, fun q hq => by rw [hI29, z_set_ne (by decide)]; exact zbx_w hck2 hKd hI26 hI27 hI28 rfl rfl rfl q hq⟩)
          · rintro Ka ⟨hKa, hKb, hKc, hKd⟩
            show eb_P _ _ 136 [(3, .int (nI k)), (2, .int 0), (1, .int (nI k)), (0, .ref 112)] [] (n, sl, kd, Ka, L, R1) _
            refine ep_iload_n (i := 3) dX11_brothers_136 rfl rfl ?_
            refine ep_iload_n (i := 1) dX11_brothers_137 rfl rfl ?_
            refine ep_icmp_ge (tgt := 218) dX11_brothers_138 (by decide) (fun c30 => ?_) (fun c30 => absurd (nI_le (Nat.le_refl _) (by omega)) c30)
            refine ep_aload_n (i := 0) dX11_brothers_218 rfl rfl ?_
            refine ep_iconst (v := 0) dX11_brothers_219 (by decide) ?_
            refine ep_pI dX11_brothers_220 plX11_154 (hF.lt (by decide)) (hF.lx (by decide)) (hF.kc (by decide) rfl) rfl rfl ?_
            refine ep_nmI (fun I31 hI31 => ?_)
            refine ep_aload_n (i := 0) dX11_brothers_223 rfl rfl ?_
            refine ep_dup dX11_brothers_224 rfl ?_
            refine ep_getI dX11_brothers_225 flX11_157 (hF.lt (by decide)) (hF.kc (by decide) rfl) ?_
            refine ep_topE (y := Ka 112 38) (by rw [hI31, z_set_nk (by decide)]) ?_
            refine ep_topE (y := nI cm) (by rw [hKb 38 (by decide)]; exact hcm) ?_
            refine ep_iconst (v := 1) dX11_brothers_228 (by decide) ?_
            refine ep_iadd dX11_brothers_229 ?_
            refine ep_topE (y := nI (cm + 1)) (nI_add _ _) ?_
            refine ep_pI dX11_brothers_230 plX11_157 (hF.lt (by decide)) (hF.lx (by decide)) (hF.kc (by decide) rfl) rfl rfl ?_
            refine ep_nmI (fun I32 hI32 => ?_)
            refine ep_iload_n (i := 1) dX11_brothers_233 rfl rfl ?_
            refine ep_iret dX11_brothers_234 rfl rfl ?_
            subst hkj
            rw [s_brothers_y hfin.2 hfin.1]
            exact ⟨rfl, I32, L, R1, rfl, hM2.bro (by show T.c + (j + 1) ≤ 7; omega) (by omega) (by rw [hI32, z_set_nk (by decide), hI31, z_set_nk (by decide)]; exact hKc) (by rw [hI32, z_set_nk (by decide), hI31, z_set_at]) (fun c7 g => by rw [hI32, z_set_at, ← nI_1 c7]; exact (nI_1 cm).symm.trans (congrArg (· + 1) (hcm.symm.trans g))) (fun q hq => by rw [hI32, z_set_ne (by decide), hI31, z_set_ne (by decide)]; exact hKd q hq) (fun c h1 h2 => by rw [hI32, z_set_ne h1, hI31, z_set_ne h1]; exact hKa c h1 h2) (fun q h1 h2 h3 => by rw [hI32, z_set_nk h3, hI31, z_set_nk h2]; exact hKb q h1), by rw [hI32, z_set_nk (by decide), hI31, z_set_nk (by decide), hKb 9 (by decide)]; exact (hBa.fr (L := L) _).1, fun c hc => by rw [hI32, z_set_ne (by omega), hI31, z_set_ne (by omega), hKa c (by omega) (by omega)]; exact (hBa.fr _).2 c hc⟩
      · replace hma : ma = 0 := hma; replace hsa : sa = (b, nI p) := hsa; subst hsa hma; replace hBa : zB n kd I Rf T 34 Ja R1 := hBa
        show eb_P _ _ 24 [(2, .int 0), (1, .int (nI k)), (0, .ref 112)] [] (n, sl, kd, (zpw Ja (b, nI p)), L, R1) _
        refine ep_iload_n (i := 2) dX11_brothers_24 rfl rfl ?_
        refine ep_if_eq (tgt := 120) dX11_brothers_25 (by decide) (fun c33 => ?_) (fun c33 => absurd (by decide) c33)
        refine ep_aload_n (i := 0) dX11_brothers_120 rfl rfl ?_
        refine ep_callV (M1 := mX11_wasRight) (rest := []) dX11_brothers_121 mlX11_147 mvX11_wasRight rfl (hF.lt (by decide)) (hF.kc (by decide) rfl) (Nat.le_of_ble_eq_true rfl) rfl (q_X11_wasRight (I := Ja) (L := L) (d + 17) hBa.P (s := (b, nI p)) (show b < 1000 by omega)) (fun _ _ g => Or.inl (by rw [g.1])) ?_
        rw [zp_end_b (s := (b, nI p)) (p := p) rfl (by omega)]
        rintro _ _ ⟨rfl, ⟨hbad, rfl⟩ | ⟨_, rfl⟩⟩
        · exact absurd hbad (nI_nm1 _ (by omega))
        show eb_P _ _ 124 [(2, .int 0), (1, .int (nI k)), (0, .ref 112)] (.int 0 :: []) (n, sl, kd, (zpw Ja (b, nI p)), L, R1) _
        refine ep_if_ne (tgt := 134) dX11_brothers_124 (by decide) (fun c34 => absurd c34 (by decide)) (fun c34 => ?_)
        refine ep_iconst (v := (-1)) dX11_brothers_127 (by decide) ?_
        refine ep_aload_n (i := 0) dX11_brothers_128 rfl rfl ?_
        refine ep_getI dX11_brothers_129 flX11_117 (hF.lt (by decide)) (hF.kc (by decide) rfl) ?_
        refine ep_topE (y := nI p) zpw_14 ?_
        refine ep_isub dX11_brothers_132 ?_
        refine ep_iret dX11_brothers_133 rfl rfl ?_
        rw [s_brothers_n hl0 (by omega) hno]
        exact hBa.no hM _
    · rintro ⟨Ja, sa, ma⟩ ⟨hBa, ⟨hma, hsa, hck, hG, hto⟩ | ⟨j, hkj, hma, hsa, hck, hG, hto, hns⟩ | ⟨hk8, hma, p, b, hp1, hp2, hsa, hno⟩⟩
      · exact absurd hck (by omega)
      · exact absurd hck (by omega)
      · exact absurd hk8 (by omega)
  · skip
    refine ep_iconst (v := 0) dX11_brothers_18 (by decide) ?_
    refine ep_iret dX11_brothers_19 rfl rfl ?_
    rw [s_brothers_0 (nI_inj0 (Decidable.not_not.1 c2) (by omega))]
    exact hB.no hM _
theorem y_X11_brothers {n : Nat} {sl : Nat × Nat} {kd : Nat → Nat × Nat} {I : Nat → Nat → Int32} {L : Nat → Nat → Int64} {Rf : Nat → Nat → Option Nat} (d : Nat) {T : zT} {H : Nat} (hM : zM n kd I L Rf T) (hO : zOk H T) : zq mX11_brothers (d + 20) [.ref 112] (n, sl, kd, I, L, Rf) (zpM n sl kd I L Rf (some (.int (s_brothers T).1)) (s_brothers T).2) := zq_of_M hM (fun I7 R7 h => q_X11_brothers d h hO)
