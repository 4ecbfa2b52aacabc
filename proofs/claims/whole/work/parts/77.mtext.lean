/-! the reference reads texts: from the judgement P to Z; beginText; what a reading leaves -/
theorem zq_of_M {n : Nat} {sl : Nat × Nat} {kd : Nat → Nat × Nat} {I : Nat → Nat → Int32} {L : Nat → Nat → Int64} {Rf : Nat → Nat → Option Nat} {T T1 : zT} {M : eb_M} {d : Nat} {as : List Value} {v : Option Value} (hM : zM n kd I L Rf T) (h : ∀ I7 R7, zM n kd I7 L R7 T → eb_Q M d as (n, sl, kd, I7, L, R7) (zpM n sl kd I7 L R7 v T1)) : zq M d as (n, sl, kd, I, L, Rf) (zpM n sl kd I L Rf v T1) := by
  intro f B I7 R7 h7
  refine (h I7 R7 (hM.E h7)).to ?_
  rintro r τ ⟨rfl, I1, L1, R1, rfl, hM1, h9, hf⟩
  have hJ : ∀ c, 112 ≤ c → c ≤ 136 → (fun c => if c < 112 ∨ 136 < c then I c else I1 c) c = I1 c := fun c g1 g2 => if_neg (by omega)
  refine ⟨fun c => if c < 112 ∨ 136 < c then I c else I1 c, fun c => if c < 112 ∨ 136 < c then Rf c else R1 c, B, rfl, ⟨fun c k hs => ?_, fun c k hs => ?_, h7.2.2.cg ?_ ?_ ?_⟩, rfl, _, L1, _, rfl, ?_, ?_, fun c hc => ⟨if_pos hc, (hf c hc).2.1, if_pos hc⟩⟩
  · show I1 c k = (if c < 112 ∨ 136 < c then I c else I1 c) k
    by_cases e : c < 112 ∨ 136 < c
    · rw [if_pos e, (hf c e).1]; exact h7.1 c k hs
    · rw [if_neg e]
  · show R1 c k = (if c < 112 ∨ 136 < c then Rf c else R1 c) k
    by_cases e : c < 112 ∨ 136 < c
    · rw [if_pos e, (hf c e).2.2]; exact h7.2.1 c k hs
    · rw [if_neg e]
  · show I1 5 8 = _; rw [(hf 5 (by omega)).1]
  · exact (hf 19 (by omega)).1
  · exact (hf 20 (by omega)).1
  · refine hM1.cg ⟨hM.F.1, hM.F.2.1, hM.F.2.2.1, fun k p e => ?_⟩ hJ rfl (congrFun (if_neg (by omega)) 16)
    show (if p.1 < 112 ∨ 136 < p.1 then Rf p.1 else R1 p.1) p.2.1 = _
    by_cases e2 : p.1 < 112 ∨ 136 < p.1
    · rw [if_pos e2]; exact hM.F.2.2.2 k p e
    · rw [if_neg e2]; exact hM1.F.2.2.2 k p e
  · show (if (112 : Nat) < 112 ∨ 136 < 112 then I 112 else I1 112) 9 = 0
    rw [if_neg (by omega)]; exact h9
/-- behind beginText and some writes of told or acts -/
def zB (n : Nat) (kd : Nat → Nat × Nat) (I : Nat → Nat → Int32) (Rf : Nat → Nat → Option Nat) (T : zT) (tp : Nat) (J : Nat → Nat → Int32) (R1 : Nat → Nat → Option Nat) : Prop := (zpc n kd J R1 116 80 T.tx.length tp (I 116)) ∧ (∀ c, c ≠ 112 → c ≠ 118 → c ≠ 125 → J c = I c) ∧ (∀ k, k ≠ 6 → k ≠ 9 → k ≠ 11 → k ≠ 12 → k ≠ 13 → k ≠ 14 → J 112 k = I 112 k) ∧ (J 112 6 = 0 ∧ J 112 9 = 0) ∧ (∀ c k, ¬ (c = 112 ∧ k = 10) → R1 c k = Rf c k)
theorem zB.P {n : Nat} {kd : Nat → Nat × Nat} {I : Nat → Nat → Int32} {Rf : Nat → Nat → Option Nat} {T : zT} {tp : Nat} {J : Nat → Nat → Int32} {R1 : Nat → Nat → Option Nat} (h : zB n kd I Rf T tp J R1) : zpc n kd J R1 116 80 T.tx.length tp (I 116) := h.1
theorem zB.c {n : Nat} {kd : Nat → Nat × Nat} {I : Nat → Nat → Int32} {Rf : Nat → Nat → Option Nat} {T : zT} {tp : Nat} {J : Nat → Nat → Int32} {R1 : Nat → Nat → Option Nat} (h : zB n kd I Rf T tp J R1) : ∀ c, c ≠ 112 → c ≠ 118 → c ≠ 125 → J c = I c := h.2.1
theorem zB.f {n : Nat} {kd : Nat → Nat × Nat} {I : Nat → Nat → Int32} {Rf : Nat → Nat → Option Nat} {T : zT} {tp : Nat} {J : Nat → Nat → Int32} {R1 : Nat → Nat → Option Nat} (h : zB n kd I Rf T tp J R1) : ∀ k, k ≠ 6 → k ≠ 9 → k ≠ 11 → k ≠ 12 → k ≠ 13 → k ≠ 14 → J 112 k = I 112 k := h.2.2.1
theorem zB.t {n : Nat} {kd : Nat → Nat × Nat} {I : Nat → Nat → Int32} {Rf : Nat → Nat → Option Nat} {T : zT} {tp : Nat} {J : Nat → Nat → Int32} {R1 : Nat → Nat → Option Nat} (h : zB n kd I Rf T tp J R1) : J 112 6 = 0 ∧ J 112 9 = 0 := h.2.2.2.1
theorem zB.R {n : Nat} {kd : Nat → Nat × Nat} {I : Nat → Nat → Int32} {Rf : Nat → Nat → Option Nat} {T : zT} {tp : Nat} {J : Nat → Nat → Int32} {R1 : Nat → Nat → Option Nat} (h : zB n kd I Rf T tp J R1) : ∀ c k, ¬ (c = 112 ∧ k = 10) → R1 c k = Rf c k := h.2.2.2.2
theorem zpw_st {J : Nat → Nat → Int32} {s : zps} {c k : Nat} {v : Int32} (h : c ≠ 112) : z_set (zpw J s) c k v = zpw (z_set J c k v) s := by
  funext a i; simp only [zpw, z_set]
  by_cases h1 : a = c ∧ i = k
  · rw [if_pos h1, if_neg (by omega), if_neg (by omega), if_pos h1]
  · rw [if_neg h1, if_neg h1]
section ZBL
variable {n : Nat} {sl : Nat × Nat} {kd : Nat → Nat × Nat} {I J : Nat → Nat → Int32} {L : Nat → Nat → Int64} {Rf R1 : Nat → Nat → Option Nat} {T : zT} {H tp : Nat}
theorem zB.st (h : zB n kd I Rf T tp J R1) {c k : Nat} {v : Int32} (hc : c = 118 ∨ c = 125) : zB n kd I Rf T tp (z_set J c k v) R1 := by
  refine ⟨⟨h.P.F, h.P.r, h.P.k, h.P.ml, h.P.c, ?_, ?_, ?_, h.P.b⟩, fun q h1 h2 h3 => by rw [z_set_ne (by omega)]; exact h.c q h1 h2 h3, fun q h1 h2 h3 h4 h5 h6 => by rw [z_set_ne (by omega)]; exact h.f q h1 h2 h3 h4 h5 h6, by rw [z_set_ne (by omega)]; exact h.t, h.R⟩
  · rw [z_set_ne (by omega)]; exact h.P.l
  · rw [z_set_ne (by omega)]; exact h.P.tq
  · rw [z_set_ne (by omega)]; exact h.P.x
/-- the sign here -/
theorem zM.hr (hM : zM n kd I L Rf T) (hO : zOk H T) {p : Nat} (h1 : p < T.tx.length) (h2 : p < tp) : zhr (I 116) T.tx.length tp p = T.tx.getD p 0 := by
  obtain ⟨v, hv, e⟩ := hO.tx p h1
  unfold zhr
  rw [if_pos ⟨h1, h2⟩, hM.tx.2 p h1, e, z_bt v hv]
theorem zM.hn {p : Nat} (h : ¬ (p < T.tx.length ∧ p < tp)) : zhr (I 116) T.tx.length tp p = -1 := by unfold zhr; rw [if_neg h]
/-- the text is gone; the rest stands -/
theorem zB.fin (h : zB n kd I Rf T tp J R1) (hM : zM n kd I L Rf T) (s : zps) : zM n kd (zpw J s) L R1 (T.w_tx []) := by
  have hc : ∀ c, c ≠ 112 → c ≠ 118 → c ≠ 125 → zpw J s c = I c := fun c h1 h2 h3 => (zpw_ne h1).trans (h.c c h1 h2 h3)
  have hf : ∀ k, k ≠ 6 → k ≠ 9 → k ≠ 11 → k ≠ 12 → k ≠ 13 → k ≠ 14 → zpw J s 112 k = I 112 k := fun k h1 h2 h3 h4 h5 h6 => (zpw_o h5 h6).trans (h.f k h1 h2 h3 h4 h5 h6)
  refine ⟨h.P.F, (h.R 112 16 (by decide)).trans hM.ru, ?_, ⟨?_, fun k hk => absurd hk (by exact Nat.not_lt_zero _)⟩, ?_, ?_, ?_, ?_, ?_, ?_, ?_, ?_, ?_, ?_⟩
  · rw [hf 18 (by decide) (by decide) (by decide) (by decide) (by decide) (by decide), hc 119 (by decide) (by decide) (by decide)]; exact hM.rv
  · rw [zpw_o (by decide) (by decide)]; exact h.t.1
  · rw [hf 8 (by decide) (by decide) (by decide) (by decide) (by decide) (by decide)]; exact hM.rw
  · rw [hc 114 (by decide) (by decide) (by decide)]; exact hM.pr
  · rw [hf 4 (by decide) (by decide) (by decide) (by decide) (by decide) (by decide)]; exact hM.wm
  · rw [hc 115 (by decide) (by decide) (by decide)]; exact hM.wd
  · rw [hf 1 (by decide) (by decide) (by decide) (by decide) (by decide) (by decide)]; exact hM.c
  · rw [hc 113 (by decide) (by decide) (by decide)]; exact hM.x
  · rw [hf 22 (by decide) (by decide) (by decide) (by decide) (by decide) (by decide), hc 122 (by decide) (by decide) (by decide)]; exact hM.un
  · rw [hf 38 (by decide) (by decide) (by decide) (by decide) (by decide) (by decide), hc 134 (by decide) (by decide) (by decide), hc 135 (by decide) (by decide) (by decide), hc 136 (by decide) (by decide) (by decide)]; exact hM.kp
  · rw [hf 30 (by decide) (by decide) (by decide) (by decide) (by decide) (by decide), hc 126 (by decide) (by decide) (by decide), hc 127 (by decide) (by decide) (by decide), hc 128 (by decide) (by decide) (by decide)]; exact hM.sn
  · rw [hf 34 (by decide) (by decide) (by decide) (by decide) (by decide) (by decide), hc 130 (by decide) (by decide) (by decide), hc 131 (by decide) (by decide) (by decide)]; exact hM.hd
theorem zB.fr (h : zB n kd I Rf T tp J R1) (s : zps) : (zpw J s 112 9 = 0) ∧ ∀ c, c < 112 ∨ 136 < c → zpw J s c = I c ∧ L c = L c ∧ R1 c = Rf c := ⟨by rw [zpw_o (by decide) (by decide)]; exact h.t.2, fun c hc => ⟨(zpw_ne (by omega)).trans (h.c c (by omega) (by omega) (by omega)), rfl, funext fun k => h.R c k (by omega)⟩⟩
/-- refused: the answer alone -/
theorem zB.no (h : zB n kd I Rf T tp J R1) (hM : zM n kd I L Rf T) (s : zps) {v : Option Value} : zpM n sl kd I L Rf v (T.w_tx []) v (n, sl, kd, zpw J s, L, R1) := ⟨rfl, _, _, _, rfl, h.fin hM s, (h.fr (L := L) s).1, (h.fr s).2⟩
end ZBL
/-! what the readers do where all is fine -/
theorem zp_one_y {hr : Nat → Int32} {a m : Int32} {p : Nat} (h : a ≤ hr p ∧ hr p ≤ a + m - 1) : zp_one hr a m (p, -1) = (hr p - a, (p + 1, -1)) := by unfold zp_one; rw [if_pos rfl, if_pos h]
theorem zp_one_n {hr : Nat → Int32} {a m : Int32} {p : Nat} (h : ¬ (a ≤ hr p ∧ hr p ≤ a + m - 1)) : zp_one hr a m (p, -1) = (0, (p, nI p)) := by unfold zp_one; rw [if_pos rfl, if_neg h]
theorem zp_one_w {hr : Nat → Int32} {a m w : Int32} {p : Nat} (h : ¬ w = -1) : zp_one hr a m (p, w) = (0, (p, w)) := by unfold zp_one; rw [if_neg h]
theorem zp_sgn_y {hr : Nat → Int32} {m : Int32} {p : Nat} (h1 : hr p = 45 ∨ hr p = 43) (h2 : 48 ≤ hr (p + 1) ∧ hr (p + 1) ≤ 48 + m - 1) : zp_sgn hr m (p, -1) = (if hr p = 45 then -(hr (p + 1) - 48) else hr (p + 1) - 48, (p + 2, -1)) := by
  unfold zp_sgn
  simp only
  rw [if_neg (show ¬ (True ∧ hr p ≠ 45 ∧ hr p ≠ 43) from fun g => h1.elim g.2.1 g.2.2), zp_one_y h2]
theorem zp_sgn_n {hr : Nat → Int32} {m : Int32} {p : Nat} (hp : p < 1000) (h1 : ¬ (hr p = 45 ∨ hr p = 43)) : (zp_sgn hr m (p, -1)).2 = (p + 1, nI p) := by
  unfold zp_sgn
  simp only
  rw [if_pos ⟨trivial, fun e => h1 (Or.inl e), fun e => h1 (Or.inr e)⟩, zp_one_w (nI_nm1 p (by omega))]
theorem zp_sgn_d {hr : Nat → Int32} {m : Int32} {p : Nat} (h1 : hr p = 45 ∨ hr p = 43) (h2 : ¬ (48 ≤ hr (p + 1) ∧ hr (p + 1) ≤ 48 + m - 1)) : (zp_sgn hr m (p, -1)).2 = (p + 1, nI (p + 1)) := by
  unfold zp_sgn
  simp only
  rw [if_neg (show ¬ (True ∧ hr p ≠ 45 ∧ hr p ≠ 43) from fun g => h1.elim g.2.1 g.2.2), zp_one_n h2]
theorem zp_end_b {n p : Nat} {s : zps} (h : s.2 = nI p) (hp : p < 1000) : zp_end n s = s := by
  unfold zp_end zp_fault
  split
  · rw [if_neg (by rw [h]; exact nI_nm1 p (by omega))]
  · rfl
theorem z_hk {m : Int32} (h : ∀ v, v < 256 → (48 : Int32) ≤ nI v → nI v ≤ (48 : Int32) + m - 1 → v < 128) : ∀ v, v < 256 → (48 : Int32) ≤ nI v → nI v ≤ (48 : Int32) + m - 1 → v < 128 := h
theorem z_hk10 : ∀ v, v < 256 → (48 : Int32) ≤ nI v → nI v ≤ (48 : Int32) + 10 - 1 → v < 128 := by decide +kernel
theorem z_hk6 : ∀ v, v < 256 → (48 : Int32) ≤ nI v → nI v ≤ (48 : Int32) + 6 - 1 → v < 128 := by decide +kernel
theorem z_hk9 : ∀ v, v < 256 → (49 : Int32) ≤ nI v → nI v ≤ (49 : Int32) + 9 - 1 → v < 128 := by decide +kernel
/-! the fault that a relation tells -/
noncomputable def z_the (P : Int32 → Prop) : Int32 := Classical.epsilon P
theorem z_the_eq {P : Int32 → Prop} {x : Int32} (h : P x) (u : ∀ y z, P y → P z → y = z) : z_the P = x := u _ _ (Classical.epsilon_spec ⟨x, h⟩) h
theorem z_fst_u {bad : Nat → Prop} {N : Nat} : ∀ y z, z_fst bad N y → z_fst bad N z → y = z := by
  rintro y z (⟨p, h1, h2, h3, rfl⟩ | ⟨h1, rfl⟩) (⟨q, g1, g2, g3, rfl⟩ | ⟨g1, rfl⟩)
  · rw [show p = q from by rcases Nat.lt_trichotomy p q with h | h | h; exact absurd h2 (g3 p h); exact h; exact absurd g2 (h3 q h)]
  · exact absurd h2 (g1 p h1)
  · exact absurd g2 (h1 q g1)
  · rfl
theorem z_thf_u {t : Nat → Int32} {m : Nat} : ∀ y z, z_thf t m y → z_thf t m z → y = z := by
  rintro y z ⟨a, h1, rfl⟩ ⟨b, h2, rfl⟩; rw [z_fst_u a b h1 h2]
theorem z_wif_u {t : Nat → Int32} {m : Nat} : ∀ y z, z_wif t m y → z_wif t m z → y = z := by
  rintro y z ⟨a, h1, rfl⟩ ⟨b, h2, rfl⟩; rw [z_fst_u a b h1 h2]
theorem z_brf_u {t : Nat → Int32} {m c : Nat} : ∀ y z, z_brf t m c y → z_brf t m c z → y = z := by
  rintro y z ⟨a, h1, rfl⟩ ⟨b, h2, rfl⟩; rw [z_fst_u a b h1 h2]
theorem z_waf_u {t : Nat → Int32} {m : Nat} : ∀ y z, z_waf t m y → z_waf t m z → y = z := by
  rintro y z ⟨a, h1, rfl⟩ ⟨b, h2, rfl⟩; rw [z_fst_u a b h1 h2]
/-- the text -/
abbrev zT.tt (T : zT) : Nat → Int32 := fun k => T.tx.getD k 0
theorem k_bt {n : Nat} {sl : Nat × Nat} {kd : Nat → Nat × Nat} {I : Nat → Nat → Int32} {L : Nat → Nat → Int64} {Rf : Nat → Nat → Option Nat} {T : zT} {H : Nat} (d : Nat) (hM : zM n kd I L Rf T) (hO : zOk H T) {tp : Nat} (htp : tp ≤ 80) : eb_Q mX11_beginText (d + 1) [.ref 112, .int (nI tp)] (n, sl, kd, z_set I 112 9 0, L, Rf) (fun r τ => r = none ∧ ∃ J R1, τ = (n, sl, kd, zpw J (0, -1), L, R1) ∧ zB n kd I Rf T tp J R1) := by
  have hF := hM.F
  refine ep_meth pn_X.2.2.2.2.2.2.2.2.2.2.2 (Nat.le_of_ble_eq_true rfl) ?_
  show eb_P _ _ 0 [(0, .ref 112), (1, .int (nI tp))] [] (n, sl, kd, z_set I 112 9 0, L, Rf) _
  refine ep_aload_n (i := 0) dX11_beginText_0 rfl rfl ?_
  refine ep_aload_n (i := 0) dX11_beginText_1 rfl rfl ?_
  refine ep_getR dX11_beginText_2 flX11_23 (hF.lt (by decide)) (hF.kc (by decide) rfl) (hF.pt 110 rfl) ?_
  refine ep_aload_n (i := 0) dX11_beginText_5 rfl rfl ?_
  refine ep_getI dX11_beginText_6 flX11_102 (hF.lt (by decide)) (hF.kc (by decide) rfl) ?_
  refine ep_topE (y := nI T.tx.length) (by rw [z_set_nk (by decide)]; exact hM.tx.1) ?_
  refine ep_iload_n (i := 1) dX11_beginText_9 rfl rfl ?_
  refine ep_callV (M1 := mX11_begin) (rest := []) dX11_beginText_10 mlX11_120 mvX11_begin rfl (hF.lt (by decide)) (hF.kc (by decide) rfl) (Nat.le_of_ble_eq_true rfl) rfl (q_X11_begin (I := z_set I 112 9 0) d hF (rc := 116) (hF.lt (by decide)) (nI T.tx.length) (nI tp)) (eb_vok rfl) ?_
  rintro _ _ ⟨rfl, rfl⟩
  refine ep_nmI (fun I2 hI2 => ?_)
  refine ep_nmR (fun R2 hR2 => ?_)
  show eb_P _ _ 13 [(0, .ref 112), (1, .int (nI tp))] [] (n, sl, kd, I2, L, R2) _
  refine ep_aload_n (i := 0) dX11_beginText_13 rfl rfl ?_
  refine ep_iconst (v := 0) dX11_beginText_14 (by decide) ?_
  refine ep_pI dX11_beginText_15 plX11_102 (hF.lt (by decide)) (hF.lx (by decide)) (hF.kc (by decide) rfl) rfl rfl ?_
  refine ep_nmI (fun I1 hI1 => ?_)
  refine ep_vret dX11_beginText_18 rfl ?_
  refine ⟨rfl, z_set (z_set (z_set (z_set I 112 9 0) 112 11 (nI T.tx.length)) 112 12 (nI tp)) 112 6 0, z_rd Rf 116, ?_, ⟨⟨?_, ?_, hF.ka (by decide) rfl, ⟨hO.txl, by decide⟩, by decide, ?_, ⟨?_, htp⟩, ?_, fun k hk => ?_⟩, fun c h1 _ _ => ?_, fun k h1 h2 h3 h4 h5 h6 => ?_, ⟨?_, ?_⟩, fun c k hk => ?_⟩⟩
  · rw [hI1, hI2, hR2]
    refine congrArg (fun z => (n, sl, kd, z, L, z_rd Rf 116)) ?_
    funext a i
    simp only [z_bgn, zpw, z_set]
    by_cases h14 : a = 112 ∧ i = 14
    · rw [if_neg (show ¬ (a = 112 ∧ i = 6) by omega), if_pos h14, if_pos h14]
    · rw [if_neg h14, if_neg h14]
      by_cases h13 : a = 112 ∧ i = 13
      · rw [if_neg (show ¬ (a = 112 ∧ i = 6) by omega), if_pos h13, if_pos h13]; rfl
      · rw [if_neg h13, if_neg h13]
  · exact hF.tr (fun c k hk => by unfold z_rd va_up; by_cases e : c = 112; subst e; rw [if_pos rfl, if_neg (fun e => hk ⟨rfl, e⟩)]; rw [if_neg e])
  · simp [z_rd, va_up]
  · rw [z_set_nk (by decide), z_set_nk (by decide), z_set_at]
  · rw [z_set_nk (by decide), z_set_at]
  · rw [z_set_ne (by decide), z_set_ne (by decide), z_set_ne (by decide), z_set_ne (by decide)]
  · obtain ⟨v, hv, e⟩ := hO.tx k hk; exact ⟨v, hv, by rw [hM.tx.2 k hk, e]⟩
  · rw [z_set_ne h1, z_set_ne h1, z_set_ne h1, z_set_ne h1]
  · rw [z_set_nk h1, z_set_nk h4, z_set_nk h3, z_set_nk h2]
  · rw [z_set_at]
  · rw [z_set_nk (by decide), z_set_nk (by decide), z_set_nk (by decide), z_set_at]
  · unfold z_rd va_up; by_cases e : c = 112
    · subst e; rw [if_pos rfl, if_neg (fun e => hk ⟨rfl, e⟩)]
    · rw [if_neg e]
