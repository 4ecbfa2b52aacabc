/-! the reference: winds -/
theorem zM.wds {n : Nat} {kd : Nat → Nat × Nat} {I I1 : Nat → Nat → Int32} {L : Nat → Nat → Int64} {Rf : Nat → Nat → Option Nat} {T : zT} (h : zM n kd I L Rf T) {m : Nat} {wd : Nat → Int32} (hw : ∀ q, q < m → I1 115 q = wd q) (h4 : I1 112 4 = nI m) (hc : ∀ c, c ≠ 112 → c ≠ 115 → I1 c = I c) (hf : ∀ k, k ≠ 4 → I1 112 k = I 112 k) : zM n kd I1 L Rf ((T.w_wm m).w_wd wd) := by
  refine ⟨h.F, h.ru, ?_, ?_, ?_, ?_, h4, hw, ?_, ?_, ?_, ?_, ?_, ?_⟩
  · rw [hf 18 (by decide), hc 119 (by decide) (by decide)]; exact h.rv
  · rw [hf 6 (by decide), hc 116 (by decide) (by decide)]; exact h.tx
  · rw [hf 8 (by decide)]; exact h.rw
  · rw [hc 114 (by decide) (by decide)]; exact h.pr
  · rw [hf 1 (by decide)]; exact h.c
  · rw [hc 113 (by decide) (by decide)]; exact h.x
  · rw [hf 22 (by decide), hc 122 (by decide) (by decide)]; exact h.un
  · rw [hf 38 (by decide), hc 134 (by decide) (by decide), hc 135 (by decide) (by decide), hc 136 (by decide) (by decide)]; exact h.kp
  · rw [hf 30 (by decide), hc 126 (by decide) (by decide), hc 127 (by decide) (by decide), hc 128 (by decide) (by decide)]; exact h.sn
  · rw [hf 34 (by decide), hc 130 (by decide) (by decide), hc 131 (by decide) (by decide)]; exact h.hd
noncomputable def s_winds (T : zT) : Int32 × zT := if z_the (z_wif T.tt T.tx.length) = -1 then (nI (T.tx.length / 2), ((T.w_tx []).w_wm (T.tx.length / 2)).w_wd (fun q => z_sg T.tt (2 * q))) else (-1 - z_the (z_wif T.tt T.tx.length), T.w_tx [])
theorem s_winds_n {T : zT} {p : Nat} (hp : p < 1000) (h : z_wif T.tt T.tx.length (nI p)) : s_winds T = (-1 - nI p, T.w_tx []) := by
  unfold s_winds; rw [z_the_eq h z_wif_u, if_neg (nI_nm1 p (by omega))]
theorem s_winds_y {T : zT} (h : z_wif T.tt T.tx.length (-1)) : s_winds T = (nI (T.tx.length / 2), ((T.w_tx []).w_wm (T.tx.length / 2)).w_wd (fun q => z_sg T.tt (2 * q))) := by
  unfold s_winds; rw [z_the_eq h z_wif_u, if_pos rfl]
abbrev zsi (v : Int32) : Prop := v = 45 ∨ v = 43
theorem z_st43 {v : Int32} : z_st 43 v ↔ zsi v := by
  unfold z_st
  constructor
  · rintro (⟨g, _⟩ | ⟨g, _⟩ | ⟨g, _⟩ | ⟨_, g⟩ | ⟨_, _, _, g, _⟩)
    · exact absurd g (by decide)
    · exact absurd g (by decide)
    · exact absurd g (by decide)
    · exact g.symm
    · exact absurd rfl g
  · intro g; exact Or.inr (Or.inr (Or.inr (Or.inl ⟨rfl, g.symm⟩)))
theorem z_st57 {v : Int32} : z_st 57 v ↔ zdg v := by
  rw [zdg_i]
  unfold z_st
  constructor
  · rintro (⟨_, g⟩ | ⟨g, _⟩ | ⟨g, _⟩ | ⟨g, _⟩ | ⟨g, _⟩)
    · exact g
    · exact absurd g (by decide)
    · exact absurd g (by decide)
    · exact absurd g (by decide)
    · exact absurd rfl g
  · intro g; exact Or.inl ⟨rfl, g⟩
theorem z_bad3s {t : Nat → Int32} {q : Nat} : z_bad t 3 40 (2 * q) ↔ 2 * q = 40 ∨ ¬ zsi (t (2 * q)) := by
  unfold z_bad
  rw [show z_ln 3 = 2 from rfl, show 2 * q % 2 = 0 from by omega, show z_ch 3 0 = 43 from by decide, z_st43]
theorem z_bad3d {t : Nat → Int32} {q : Nat} : z_bad t 3 40 (2 * q + 1) ↔ 2 * q + 1 = 40 ∨ ¬ zdg (t (2 * q + 1)) := by
  unfold z_bad
  rw [show z_ln 3 = 2 from rfl, show (2 * q + 1) % 2 = 1 from by omega, show z_ch 3 1 = 57 from by decide, z_st57]
/-- k pairs are right -/
def zwp (hr : Nat → Int32) (k : Nat) : Prop := ∀ q, q < k → zsi (hr (2 * q)) ∧ zdg (hr (2 * q + 1))
theorem zsi_m : ¬ zsi (-1) := by decide
theorem zwp_l {n : Nat} {kd : Nat → Nat × Nat} {I : Nat → Nat → Int32} {L : Nat → Nat → Int64} {Rf : Nat → Nat → Option Nat} {T : zT} {H : Nat} (hM : zM n kd I L Rf T) (hO : zOk H T) {k : Nat} (h : zwp (zhr (I 116) T.tx.length 40) k) : 2 * k ≤ T.tx.length ∧ 2 * k ≤ 40 := by
  by_cases e : k = 0
  · subst e; omega
  · have := (h (k - 1) (by omega)).2
    by_cases g : 2 * (k - 1) + 1 < T.tx.length ∧ 2 * (k - 1) + 1 < 40
    · omega
    · rw [zM.hn g] at this; exact absurd this zdg_m
theorem zwp_g {n : Nat} {kd : Nat → Nat × Nat} {I : Nat → Nat → Int32} {L : Nat → Nat → Int64} {Rf : Nat → Nat → Option Nat} {T : zT} {H : Nat} (hM : zM n kd I L Rf T) (hO : zOk H T) {k : Nat} (h : zwp (zhr (I 116) T.tx.length 40) k) : ∀ p, p < 2 * k → ¬ z_bad T.tt 3 40 p := by
  have hl := zwp_l hM hO h
  intro p hp
  rcases (show p % 2 = 0 ∨ p % 2 = 1 by omega) with e | e
  · obtain ⟨q, rfl⟩ : ∃ q, p = 2 * q := ⟨p / 2, by omega⟩
    have := (h q (by omega)).1
    rw [hM.hr hO (by omega) (by omega)] at this
    rw [z_bad3s]
    rintro (g | g)
    · omega
    · exact g this
  · obtain ⟨q, rfl⟩ : ∃ q, p = 2 * q + 1 := ⟨p / 2, by omega⟩
    have := (h q (by omega)).2
    rw [hM.hr hO (by omega) (by omega)] at this
    rw [z_bad3d]
    rintro (g | g)
    · omega
    · exact g this
theorem z_wif_s {n : Nat} {kd : Nat → Nat × Nat} {I : Nat → Nat → Int32} {L : Nat → Nat → Int64} {Rf : Nat → Nat → Option Nat} {T : zT} {H : Nat} (hM : zM n kd I L Rf T) (hO : zOk H T) {k : Nat} (h : zwp (zhr (I 116) T.tx.length 40) k) (hs : ¬ zsi (zhr (I 116) T.tx.length 40 (2 * k))) (h0 : k = 0 ∨ ¬ zhr (I 116) T.tx.length 40 (2 * k) = -1) : z_wif T.tt T.tx.length (nI (2 * k)) := by
  have hl := zwp_l hM hO h
  by_cases e : 2 * k < T.tx.length ∧ 2 * k < 40
  · refine ⟨nI (2 * k), Or.inl ⟨2 * k, e.1, ?_, fun q hq => zwp_g hM hO h q hq, rfl⟩, ?_⟩
    · rw [z_bad3s]; rw [hM.hr hO e.1 e.2] at hs; exact Or.inr hs
    · rw [if_neg (fun g => nI_nm1 _ (by omega) g.1)]
  · rcases h0 with h0 | h0
    · subst h0
      have e2 : T.tx.length = 0 := by omega
      exact ⟨-1, Or.inr ⟨fun q hq => absurd hq (by omega), rfl⟩, by rw [if_pos ⟨rfl, Or.inl e2⟩, e2]⟩
    · exact absurd (zM.hn e) h0
theorem z_wif_d {n : Nat} {kd : Nat → Nat × Nat} {I : Nat → Nat → Int32} {L : Nat → Nat → Int64} {Rf : Nat → Nat → Option Nat} {T : zT} {H : Nat} (hM : zM n kd I L Rf T) (hO : zOk H T) {k : Nat} (h : zwp (zhr (I 116) T.tx.length 40) k) (hs : zsi (zhr (I 116) T.tx.length 40 (2 * k))) (hd : ¬ zdg (zhr (I 116) T.tx.length 40 (2 * k + 1))) : z_wif T.tt T.tx.length (nI (2 * k + 1)) := by
  have hl := zwp_l hM hO h
  have e : 2 * k < T.tx.length ∧ 2 * k < 40 := by
    by_cases g : 2 * k < T.tx.length ∧ 2 * k < 40
    · exact g
    · rw [zM.hn g] at hs; exact absurd hs zsi_m
  have hg : ∀ q, q < 2 * k + 1 → ¬ z_bad T.tt 3 40 q := fun q hq => by
    by_cases g : q = 2 * k
    · rw [g, z_bad3s]; rw [hM.hr hO e.1 e.2] at hs
      rintro (g | g)
      · omega
      · exact g hs
    · exact zwp_g hM hO h q (by omega)
  by_cases e2 : 2 * k + 1 < T.tx.length
  · refine ⟨nI (2 * k + 1), Or.inl ⟨2 * k + 1, e2, ?_, hg, rfl⟩, ?_⟩
    · rw [z_bad3d]; rw [hM.hr hO e2 (by omega)] at hd; exact Or.inr hd
    · rw [if_neg (fun g => nI_nm1 _ (by omega) g.1)]
  · have e3 : T.tx.length = 2 * k + 1 := by omega
    exact ⟨-1, Or.inr ⟨fun q hq => hg q (by omega), rfl⟩, by rw [if_pos ⟨rfl, Or.inr (by omega)⟩, e3]⟩
theorem z_wif_e {n : Nat} {kd : Nat → Nat × Nat} {I : Nat → Nat → Int32} {L : Nat → Nat → Int64} {Rf : Nat → Nat → Option Nat} {T : zT} {H : Nat} (hM : zM n kd I L Rf T) (hO : zOk H T) {k : Nat} (hk : ¬ k = 0) (h : zwp (zhr (I 116) T.tx.length 40) k) (hn : zhr (I 116) T.tx.length 40 (2 * k) = -1) : (2 * k < T.tx.length → z_wif T.tt T.tx.length (nI (2 * k))) ∧ (¬ 2 * k < T.tx.length → z_wif T.tt T.tx.length (-1) ∧ T.tx.length = 2 * k) := by
  have hl := zwp_l hM hO h
  refine ⟨fun g => ?_, fun g => ⟨⟨-1, Or.inr ⟨fun q hq => zwp_g hM hO h q (by omega), rfl⟩, ?_⟩, by omega⟩⟩
  · have e4 : 2 * k = 40 := by
      by_cases e : 2 * k < 40
      · have hh := hO.tx (2 * k) g
        obtain ⟨v, hv, ev⟩ := hh
        rw [hM.hr hO g e, ev] at hn
        exact absurd hn (nI_nm1 v (by omega))
      · omega
    refine ⟨nI (2 * k), Or.inl ⟨2 * k, g, by rw [z_bad3s]; exact Or.inl e4, fun q hq => zwp_g hM hO h q hq, rfl⟩, ?_⟩
    rw [if_neg (fun g => nI_nm1 _ (by omega) g.1)]
  · rw [if_neg (fun e => by rcases e.2 with e | e <;> omega)]
/-- what a pair tells -/
def zwv (hr : Nat → Int32) (q : Nat) : Int32 := if hr (2 * q) = 45 then -(hr (2 * q + 1) - 48) else hr (2 * q + 1) - 48
theorem zwv_z {n : Nat} {kd : Nat → Nat × Nat} {I : Nat → Nat → Int32} {L : Nat → Nat → Int64} {Rf : Nat → Nat → Option Nat} {T : zT} {H : Nat} (hM : zM n kd I L Rf T) (hO : zOk H T) {k q : Nat} (h : zwp (zhr (I 116) T.tx.length 40) k) (hq : q < k) : zwv (zhr (I 116) T.tx.length 40) q = z_sg T.tt (2 * q) := by
  have hl := zwp_l hM hO h
  unfold zwv z_sg
  rw [hM.hr hO (by omega) (by omega), hM.hr hO (by omega) (by omega)]
theorem q_X11_winds {n : Nat} {sl : Nat × Nat} {kd : Nat → Nat × Nat} {I : Nat → Nat → Int32} {L : Nat → Nat → Int64} {Rf : Nat → Nat → Option Nat} (d : Nat) {T : zT} {H : Nat} (hM : zM n kd I L Rf T) (hO : zOk H T) : eb_Q mX11_winds (d + 20) [.ref 112] (n, sl, kd, I, L, Rf) (zpM n sl kd I L Rf (some (.int (s_winds T).1)) (s_winds T).2) := by
  have hF := hM.F; have hc7 := hO.c; have hx8 := hO.txl
  refine ep_meth pn_X.2.2.2.2.2.2.2.2.2.2.2 (Nat.le_of_ble_eq_true rfl) ?_
  show eb_P _ _ 0 [(0, .ref 112)] [] (n, sl, kd, I, L, Rf) _
  refine ep_aload_n (i := 0) dX11_winds_0 rfl rfl ?_
  refine ep_iconst (v := 0) dX11_winds_1 (by decide) ?_
  refine ep_pI dX11_winds_2 plX11_89 (hF.lt (by decide)) (hF.lx (by decide)) (hF.kc (by decide) rfl) rfl rfl ?_
  refine ep_nmI (fun I1 hI1 => ?_)
  subst hI1
  refine ep_aload_n (i := 0) dX11_winds_5 rfl rfl ?_
  refine ep_bipush (v := 40) dX11_winds_6 (by decide) ?_
  refine ep_callV (M1 := mX11_beginText) (rest := []) dX11_winds_8 mlX11_144 mvX11_beginText rfl (hF.lt (by decide)) (hF.kc (by decide) rfl) (Nat.le_of_ble_eq_true rfl) rfl (k_bt (I := I) (L := L) (d + 18) hM hO (tp := 40) (by decide)) (fun _ _ h => Or.inl (by obtain ⟨_, J, R1, h, _⟩ := h; rw [h])) ?_
  rintro _ _ ⟨rfl, J0, R1, rfl, hB⟩
  replace hF := hB.P.F
  show eb_P _ _ 11 [(0, .ref 112)] [] (n, sl, kd, (zpw J0 (0, -1)), L, R1) _
  refine ep_iconst (v := 0) dX11_winds_11 (by decide) ?_
  refine ep_istore_n (l' := [(1, .int 0), (0, .ref 112)]) dX11_winds_12 rfl (by decide) rfl ?_
  refine ep_eq (l2 := [(1, .int (nI 0)), (0, .ref 112)]) (σ2 := (n, sl, kd, zpw J0 (0, -1), L, R1)) rfl (by rw [nI_0]) rfl rfl ?_
  refine ep_for 21 (fun k (a : (Nat → Nat → Int32) × zps) => ([(1, .int (nI k)), (0, .ref 112)], (n, sl, kd, zpw a.1 a.2, L, R1))) (fun k a => zB n kd I Rf T 40 a.1 R1 ∧ ((a.2 = (2 * k, -1) ∧ zwp (zhr (I 116) T.tx.length 40) k ∧ ∀ q, q < k → a.1 118 q = zwv (zhr (I 116) T.tx.length 40) q) ∨ ∃ p b, p < 200 ∧ b < 200 ∧ a.2 = (b, nI p) ∧ z_wif T.tt T.tx.length (nI p))) ?_ ?_ 21 0 (J0, (0, -1)) (by omega) ⟨hB, Or.inl ⟨rfl, fun q hq => absurd hq (Nat.not_lt_zero q), fun q hq => absurd hq (Nat.not_lt_zero q)⟩⟩
  · rintro k ⟨Ja, sa⟩ hk ⟨hBa, ⟨hsa, hgo, hva⟩ | ⟨p, b, hp1, hp2, hsa, hno⟩⟩ ih
    · replace hsa : sa = (2 * k, -1) := hsa; subst hsa; replace hBa : zB n kd I Rf T 40 Ja R1 := hBa
      replace hgo : zwp (zhr (I 116) T.tx.length 40) k := hgo; replace hva : ∀ q, q < k → Ja 118 q = zwv (zhr (I 116) T.tx.length 40) q := hva
      have hl2 := zwp_l hM hO hgo
      show eb_P _ _ 13 [(1, .int (nI k)), (0, .ref 112)] [] (n, sl, kd, (zpw Ja (2 * k, -1)), L, R1) _
      refine ep_aload_n (i := 0) dX11_winds_13 rfl rfl ?_
      refine ep_callV (M1 := mX11_fine) (rest := []) dX11_winds_14 mlX11_124 mvX11_fine rfl (hF.lt (by decide)) (hF.kc (by decide) rfl) (Nat.le_of_ble_eq_true rfl) rfl (eb_b1 rfl  (q_X11_fine (I := Ja) (L := L) (d + 19) hBa.P (s := (2 * k, -1)) (show 2 * k < 1000 by omega))) eb_rok ?_
      rintro _ _ ⟨rfl, rfl⟩
      show eb_P _ _ 17 [(1, .int (nI k)), (0, .ref 112)] (.int 1 :: []) _ _
      refine ep_if_eq (tgt := 50) dX11_winds_17 (by decide) (fun c2 => absurd c2 (by decide)) (fun c2 => ?_)
      refine ep_iload_n (i := 1) dX11_winds_20 rfl rfl ?_
      refine ep_if_eq (tgt := 32) dX11_winds_21 (by decide) (fun c3 => ?_) (fun c3 => ?_)
      · skip
        refine ep_aload_n (i := 0) dX11_winds_32 rfl rfl ?_
        refine ep_getR dX11_winds_33 flX11_31 (hF.lt (by decide)) (hF.kc (by decide) rfl) (hF.pt 112 rfl) ?_
        refine ep_iload_n (i := 1) dX11_winds_36 rfl rfl ?_
        refine ep_aload_n (i := 0) dX11_winds_37 rfl rfl ?_
        refine ep_bipush (v := 10) dX11_winds_38 (by decide) ?_
        refine ep_callV (M1 := mX11_signedOf) (rest := [.int (nI k), .ref 118]) dX11_winds_40 mlX11_150 mvX11_signedOf rfl (hF.lt (by decide)) (hF.kc (by decide) rfl) (Nat.le_of_ble_eq_true rfl) rfl (q_X11_signedOf (I := Ja) (L := L) (d + 16) hBa.P (s := (2 * k, -1)) (show 2 * k < 900 by omega) (k := 10) z_hk10) (fun _ _ g => Or.inl (by rw [g.1])) ?_
        rintro _ _ ⟨rfl, rfl⟩
        by_cases hs4 : (zhr (I 116) T.tx.length 40) (2 * k) = 45 ∨ (zhr (I 116) T.tx.length 40) (2 * k) = 43
        · by_cases hd5 : 48 ≤ (zhr (I 116) T.tx.length 40) (2 * k + 1) ∧ (zhr (I 116) T.tx.length 40) (2 * k + 1) ≤ 48 + 10 - 1
          · rw [zp_sgn_y hs4 hd5]
            show eb_P _ _ 43 [(1, .int (nI k)), (0, .ref 112)] (.int (if (zhr (I 116) T.tx.length 40) (2 * k) = 45 then -((zhr (I 116) T.tx.length 40) (2 * k + 1) - 48) else (zhr (I 116) T.tx.length 40) (2 * k + 1) - 48) :: [.int (nI k), .ref 118]) (n, sl, kd, (zpw Ja (2 * k + 2, -1)), L, R1) _
            refine ep_isN (k := k) dX11_winds_43 (hF.lt (by decide)) (hF.lx (by decide)) (hF.ka (by decide) rfl) (by omega) (by decide) ?_
            refine ep_eq (σ2 := (n, sl, kd, zpw (z_set Ja 118 k (if (zhr (I 116) T.tx.length 40) (2 * k) = 45 then -((zhr (I 116) T.tx.length 40) (2 * k + 1) - 48) else (zhr (I 116) T.tx.length 40) (2 * k + 1) - 48)) (2 * k + 2, -1), L, R1)) rfl rfl rfl (by rw [zpw_st (by decide)]) ?_
            have hB6 : zB n kd I Rf T 40 (z_set Ja 118 k (if (zhr (I 116) T.tx.length 40) (2 * k) = 45 then -((zhr (I 116) T.tx.length 40) (2 * k + 1) - 48) else (zhr (I 116) T.tx.length 40) (2 * k + 1) - 48)) R1 := hBa.st (by decide)
            refine ep_iinc (v := (nI (k + 1))) (l' := [(1, .int ((nI (k + 1)))), (0, .ref 112)]) dX11_winds_44 rfl (nI_1 _) (by decide) rfl ?_
            refine ep_goto (tgt := 13) dX11_winds_47 (by decide) ?_
            exact ep_eq (l2 := [(1, .int (nI (k + 1))), (0, .ref 112)]) rfl rfl rfl rfl (ih ((z_set Ja 118 k (if (zhr (I 116) T.tx.length 40) (2 * k) = 45 then -((zhr (I 116) T.tx.length 40) (2 * k + 1) - 48) else (zhr (I 116) T.tx.length 40) (2 * k + 1) - 48)), (2 * k + 2, -1)) ⟨hB6, Or.inl ⟨rfl, fun q hq => by by_cases e : q = k; rw [e]; exact ⟨hs4, hd5⟩; exact hgo q (by omega), fun q hq => by show (z_set Ja 118 k (if (zhr (I 116) T.tx.length 40) (2 * k) = 45 then -((zhr (I 116) T.tx.length 40) (2 * k + 1) - 48) else (zhr (I 116) T.tx.length 40) (2 * k + 1) - 48)) 118 q = _; by_cases e : q = k; rw [e, z_set_at]; rfl; rw [z_set_nk e]; exact hva q (by omega)⟩⟩)
          · obtain ⟨va, hva⟩ : ∃ z, z = (zp_sgn (zhr (I 116) T.tx.length 40) 10 (2 * k, -1)).1 := ⟨_, rfl⟩
            rw [← hva, zp_sgn_d hs4 hd5]
            show eb_P _ _ 43 [(1, .int (nI k)), (0, .ref 112)] (.int va :: [.int (nI k), .ref 118]) (n, sl, kd, (zpw Ja (2 * k + 1, nI (2 * k + 1))), L, R1) _
            refine ep_isN (k := k) dX11_winds_43 (hF.lt (by decide)) (hF.lx (by decide)) (hF.ka (by decide) rfl) (by omega) (by decide) ?_
            refine ep_eq (σ2 := (n, sl, kd, zpw (z_set Ja 118 k va) (2 * k + 1, nI (2 * k + 1)), L, R1)) rfl rfl rfl (by rw [zpw_st (by decide)]) ?_
            have hB7 : zB n kd I Rf T 40 (z_set Ja 118 k va) R1 := hBa.st (by decide)
            refine ep_iinc (v := (nI (k + 1))) (l' := [(1, .int ((nI (k + 1)))), (0, .ref 112)]) dX11_winds_44 rfl (nI_1 _) (by decide) rfl ?_
            refine ep_goto (tgt := 13) dX11_winds_47 (by decide) ?_
            exact ep_eq (l2 := [(1, .int (nI (k + 1))), (0, .ref 112)]) rfl rfl rfl rfl (ih ((z_set Ja 118 k va), (2 * k + 1, nI (2 * k + 1))) ⟨hB7, Or.inr ⟨2 * k + 1, 2 * k + 1, by omega, by omega, rfl, z_wif_d hM hO hgo hs4 hd5⟩⟩)
        · obtain ⟨va, hva⟩ : ∃ z, z = (zp_sgn (zhr (I 116) T.tx.length 40) 10 (2 * k, -1)).1 := ⟨_, rfl⟩
          rw [← hva, zp_sgn_n (by omega) hs4]
          show eb_P _ _ 43 [(1, .int (nI k)), (0, .ref 112)] (.int va :: [.int (nI k), .ref 118]) (n, sl, kd, (zpw Ja (2 * k + 1, nI (2 * k))), L, R1) _
          refine ep_isN (k := k) dX11_winds_43 (hF.lt (by decide)) (hF.lx (by decide)) (hF.ka (by decide) rfl) (by omega) (by decide) ?_
          refine ep_eq (σ2 := (n, sl, kd, zpw (z_set Ja 118 k va) (2 * k + 1, nI (2 * k)), L, R1)) rfl rfl rfl (by rw [zpw_st (by decide)]) ?_
          have hB8 : zB n kd I Rf T 40 (z_set Ja 118 k va) R1 := hBa.st (by decide)
          refine ep_iinc (v := (nI (k + 1))) (l' := [(1, .int ((nI (k + 1)))), (0, .ref 112)]) dX11_winds_44 rfl (nI_1 _) (by decide) rfl ?_
          refine ep_goto (tgt := 13) dX11_winds_47 (by decide) ?_
          exact ep_eq (l2 := [(1, .int (nI (k + 1))), (0, .ref 112)]) rfl rfl rfl rfl (ih ((z_set Ja 118 k va), (2 * k + 1, nI (2 * k))) ⟨hB8, Or.inr ⟨2 * k, 2 * k + 1, by omega, by omega, rfl, z_wif_s hM hO hgo hs4 (Or.inl (nI_inj0 c3 (by omega)))⟩⟩)
      · skip
        refine ep_aload_n (i := 0) dX11_winds_24 rfl rfl ?_
        refine ep_callV (M1 := mX11_here) (rest := []) dX11_winds_25 mlX11_128 mvX11_here rfl (hF.lt (by decide)) (hF.kc (by decide) rfl) (Nat.le_of_ble_eq_true rfl) rfl (q_X11_here (I := Ja) (L := L) (d + 19) hBa.P (s := (2 * k, -1)) (show 2 * k < 1000 by omega)) eb_rok ?_
        rintro _ _ ⟨rfl, rfl⟩
        show eb_P _ _ 28 [(1, .int (nI k)), (0, .ref 112)] (.int ((zhr (I 116) T.tx.length 40) (2 * k)) :: []) _ _
        refine ep_iconst (v := (-1)) dX11_winds_28 (by decide) ?_
        refine ep_icmp_eq (tgt := 50) dX11_winds_29 (by decide) (fun c9 => ?_) (fun c9 => ?_)
        · skip
          refine ep_aload_n (i := 0) dX11_winds_50 rfl rfl ?_
          refine ep_callV (M1 := mX11_wasRight) (rest := []) dX11_winds_51 mlX11_147 mvX11_wasRight rfl (hF.lt (by decide)) (hF.kc (by decide) rfl) (Nat.le_of_ble_eq_true rfl) rfl (q_X11_wasRight (I := Ja) (L := L) (d + 17) hBa.P (s := (2 * k, -1)) (show 2 * k < 1000 by omega)) (fun _ _ g => Or.inl (by rw [g.1])) ?_
          by_cases hl10 : 2 * k < T.tx.length
          · rw [show zp_end T.tx.length (2 * k, -1) = (2 * k, nI (2 * k)) from if_pos hl10]
            rintro _ _ ⟨rfl, ⟨hbad, rfl⟩ | ⟨_, rfl⟩⟩
            · exact absurd hbad (nI_nm1 _ (by omega))
            show eb_P _ _ 54 [(1, .int (nI k)), (0, .ref 112)] (.int 0 :: []) (n, sl, kd, (zpw Ja (2 * k, nI (2 * k))), L, R1) _
            refine ep_if_ne (tgt := 64) dX11_winds_54 (by decide) (fun c11 => absurd c11 (by decide)) (fun c11 => ?_)
            refine ep_iconst (v := (-1)) dX11_winds_57 (by decide) ?_
            refine ep_aload_n (i := 0) dX11_winds_58 rfl rfl ?_
            refine ep_getI dX11_winds_59 flX11_117 (hF.lt (by decide)) (hF.kc (by decide) rfl) ?_
            refine ep_topE (y := nI (2 * k)) zpw_14 ?_
            refine ep_isub dX11_winds_62 ?_
            refine ep_iret dX11_winds_63 rfl rfl ?_
            rw [s_winds_n (p := 2 * k) (by omega) ((z_wif_e hM hO (fun e => c3 (by rw [e]; rfl)) hgo c9).1 hl10)]
            exact hBa.no hM _
          · rw [show zp_end T.tx.length (2 * k, -1) = (2 * k, -1) from if_neg hl10]
            rintro _ _ ⟨rfl, ⟨_, rfl⟩ | ⟨hbad, rfl⟩⟩
            rotate_left
            · exact absurd rfl hbad
            show eb_P _ _ 54 [(1, .int (nI k)), (0, .ref 112)] (.int 1 :: []) (n, sl, kd, (zpw Ja (2 * k, -1)), L, R1) _
            refine ep_if_ne (tgt := 64) dX11_winds_54 (by decide) (fun c12 => ?_) (fun c12 => absurd (by decide) c12)
            refine ep_iconst (v := 0) dX11_winds_64 (by decide) ?_
            refine ep_istore_n (l' := [(2, .int 0), (1, .int (nI k)), (0, .ref 112)]) dX11_winds_65 rfl (by decide) rfl ?_
            have hk0 : ¬ k = 0 := fun e => c3 (by rw [e]; rfl)
            have hfin := (z_wif_e hM hO hk0 hgo c9).2 hl10
            refine ep_eq (l2 := [(2, .int (nI 0)), (1, .int (nI k)), (0, .ref 112)]) (σ2 := (n, sl, kd, zpw Ja (2 * k, -1), L, R1)) rfl (by rw [nI_0]) rfl rfl ?_
            refine ep_for k (fun j (a : Nat → Nat → Int32) => ([(2, .int (nI j)), (1, .int (nI k)), (0, .ref 112)], (n, sl, kd, a, L, R1))) (fun j a => (∀ c, c ≠ 115 → a c = zpw Ja (2 * k, -1) c) ∧ ∀ q, q < j → a 115 q = zwv (zhr (I 116) T.tx.length 40) q) ?_ ?_ k 0 (zpw Ja (2 * k, -1)) (by omega) ⟨fun _ _ => rfl, fun q hq => absurd hq (Nat.not_lt_zero q)⟩
            · rintro j Ka hk2 ⟨hKa, hKb⟩ ih2
              show eb_P _ _ 66 [(2, .int (nI j)), (1, .int (nI k)), (0, .ref 112)] [] (n, sl, kd, Ka, L, R1) _
              refine ep_iload_n (i := 2) dX11_winds_66 rfl rfl ?_
              refine ep_iload_n (i := 1) dX11_winds_67 rfl rfl ?_
              refine ep_icmp_ge (tgt := 89) dX11_winds_68 (by decide) (fun c13 => absurd c13 (nI_ge hk2 (by omega))) (fun c13 => ?_)
              refine ep_aload_n (i := 0) dX11_winds_71 rfl rfl ?_
              refine ep_getR dX11_winds_72 flX11_16 (hF.lt (by decide)) (hF.kc (by decide) rfl) (hF.pt 109 rfl) ?_
              refine ep_iload_n (i := 2) dX11_winds_75 rfl rfl ?_
              refine ep_aload_n (i := 0) dX11_winds_76 rfl rfl ?_
              refine ep_getR dX11_winds_77 flX11_31 (hF.lt (by decide)) (hF.kc (by decide) rfl) (hF.pt 112 rfl) ?_
              refine ep_iload_n (i := 2) dX11_winds_80 rfl rfl ?_
              refine ep_iaN (k := j) dX11_winds_81 (hF.lt (by decide)) (hF.ka (by decide) rfl) (by omega) (by decide) ?_
              refine ep_topE (y := zwv (zhr (I 116) T.tx.length 40) j) (by rw [hKa 118 (by decide), zpw_ne (by decide)]; exact hva j hk2) ?_
              refine ep_isN (k := j) dX11_winds_82 (hF.lt (by decide)) (hF.lx (by decide)) (hF.ka (by decide) rfl) (by omega) (by decide) ?_
              refine ep_nmI (fun I14 hI14 => ?_)
              refine ep_iinc (v := (nI (j + 1))) (l' := [(2, .int ((nI (j + 1)))), (1, .int (nI k)), (0, .ref 112)]) dX11_winds_83 rfl (nI_1 _) (by decide) rfl ?_
              refine ep_goto (tgt := 66) dX11_winds_86 (by decide) ?_
              exact ep_eq (l2 := [(2, .int (nI (j + 1))), (1, .int (nI k)), (0, .ref 112)]) rfl rfl rfl rfl (ih2 I14 ⟨fun c hc => by rw [hI14, z_set_ne hc]; exact hKa c hc, fun q hq => by rw [hI14]; by_cases e : q = j; rw [e, z_set_at]; rw [z_set_nk e]; exact hKb q (by omega)⟩)
            · rintro Ka ⟨hKa, hKb⟩
              show eb_P _ _ 66 [(2, .int (nI k)), (1, .int (nI k)), (0, .ref 112)] [] (n, sl, kd, Ka, L, R1) _
              refine ep_iload_n (i := 2) dX11_winds_66 rfl rfl ?_
              refine ep_iload_n (i := 1) dX11_winds_67 rfl rfl ?_
              refine ep_icmp_ge (tgt := 89) dX11_winds_68 (by decide) (fun c15 => ?_) (fun c15 => absurd (nI_le (Nat.le_refl _) (by omega)) c15)
              refine ep_aload_n (i := 0) dX11_winds_89 rfl rfl ?_
              refine ep_iload_n (i := 1) dX11_winds_90 rfl rfl ?_
              refine ep_pI dX11_winds_91 plX11_19 (hF.lt (by decide)) (hF.lx (by decide)) (hF.kc (by decide) rfl) rfl rfl ?_
              refine ep_nmI (fun I16 hI16 => ?_)
              refine ep_iload_n (i := 1) dX11_winds_94 rfl rfl ?_
              refine ep_iret dX11_winds_95 rfl rfl ?_
              have e2 : T.tx.length / 2 = k := by omega
              rw [s_winds_y hfin.1, e2]
              exact ⟨rfl, I16, L, R1, rfl, (hBa.fin hM (2 * k, -1)).wds (fun q hq => by rw [hI16, z_set_ne (by decide), hKb q hq]; exact zwv_z hM hO hgo hq) (by rw [hI16, z_set_at]) (fun c h1 h2 => by rw [hI16, z_set_ne h1]; exact hKa c h2) (fun q hq => by rw [hI16, z_set_nk hq, hKa 112 (by decide)]), by rw [hI16, z_set_nk (by decide), hKa 112 (by decide)]; exact (hBa.fr (L := L) _).1, fun c hc => by rw [hI16, z_set_ne (by omega), hKa c (by omega)]; exact (hBa.fr _).2 c hc⟩
        · skip
          refine ep_aload_n (i := 0) dX11_winds_32 rfl rfl ?_
          refine ep_getR dX11_winds_33 flX11_31 (hF.lt (by decide)) (hF.kc (by decide) rfl) (hF.pt 112 rfl) ?_
          refine ep_iload_n (i := 1) dX11_winds_36 rfl rfl ?_
          refine ep_aload_n (i := 0) dX11_winds_37 rfl rfl ?_
          refine ep_bipush (v := 10) dX11_winds_38 (by decide) ?_
          refine ep_callV (M1 := mX11_signedOf) (rest := [.int (nI k), .ref 118]) dX11_winds_40 mlX11_150 mvX11_signedOf rfl (hF.lt (by decide)) (hF.kc (by decide) rfl) (Nat.le_of_ble_eq_true rfl) rfl (q_X11_signedOf (I := Ja) (L := L) (d + 16) hBa.P (s := (2 * k, -1)) (show 2 * k < 900 by omega) (k := 10) z_hk10) (fun _ _ g => Or.inl (by rw [g.1])) ?_
          rintro _ _ ⟨rfl, rfl⟩
          by_cases hs17 : (zhr (I 116) T.tx.length 40) (2 * k) = 45 ∨ (zhr (I 116) T.tx.length 40) (2 * k) = 43
          · by_cases hd18 : 48 ≤ (zhr (I 116) T.tx.length 40) (2 * k + 1) ∧ (zhr (I 116) T.tx.length 40) (2 * k + 1) ≤ 48 + 10 - 1
            · rw [zp_sgn_y hs17 hd18]
              show eb_P _ _ 43 [(1, .int (nI k)), (0, .ref 112)] (.int (if (zhr (I 116) T.tx.length 40) (2 * k) = 45 then -((zhr (I 116) T.tx.length 40) (2 * k + 1) - 48) else (zhr (I 116) T.tx.length 40) (2 * k + 1) - 48) :: [.int (nI k), .ref 118]) (n, sl, kd, (zpw Ja (2 * k + 2, -1)), L, R1) _
              refine ep_isN (k := k) dX11_winds_43 (hF.lt (by decide)) (hF.lx (by decide)) (hF.ka (by decide) rfl) (by omega) (by decide) ?_
              refine ep_eq (σ2 := (n, sl, kd, zpw (z_set Ja 118 k (if (zhr (I 116) T.tx.length 40) (2 * k) = 45 then -((zhr (I 116) T.tx.length 40) (2 * k + 1) - 48) else (zhr (I 116) T.tx.length 40) (2 * k + 1) - 48)) (2 * k + 2, -1), L, R1)) rfl rfl rfl (by rw [zpw_st (by decide)]) ?_
              have hB19 : zB n kd I Rf T 40 (z_set Ja 118 k (if (zhr (I 116) T.tx.length 40) (2 * k) = 45 then -((zhr (I 116) T.tx.length 40) (2 * k + 1) - 48) else (zhr (I 116) T.tx.length 40) (2 * k + 1) - 48)) R1 := hBa.st (by decide)
              refine ep_iinc (v := (nI (k + 1))) (l' := [(1, .int ((nI (k + 1)))), (0, .ref 112)]) dX11_winds_44 rfl (nI_1 _) (by decide) rfl ?_
              refine ep_goto (tgt := 13) dX11_winds_47 (by decide) ?_
              exact ep_eq (l2 := [(1, .int (nI (k + 1))), (0, .ref 112)]) rfl rfl rfl rfl (ih ((z_set Ja 118 k (if (zhr (I 116) T.tx.length 40) (2 * k) = 45 then -((zhr (I 116) T.tx.length 40) (2 * k + 1) - 48) else (zhr (I 116) T.tx.length 40) (2 * k + 1) - 48)), (2 * k + 2, -1)) ⟨hB19, Or.inl ⟨rfl, fun q hq => by by_cases e : q = k; rw [e]; exact ⟨hs17, hd18⟩; exact hgo q (by omega), fun q hq => by show (z_set Ja 118 k (if (zhr (I 116) T.tx.length 40) (2 * k) = 45 then -((zhr (I 116) T.tx.length 40) (2 * k + 1) - 48) else (zhr (I 116) T.tx.length 40) (2 * k + 1) - 48)) 118 q = _; by_cases e : q = k; rw [e, z_set_at]; rfl; rw [z_set_nk e]; exact hva q (by omega)⟩⟩)
            · obtain ⟨va, hva⟩ : ∃ z, z = (zp_sgn (zhr (I 116) T.tx.length 40) 10 (2 * k, -1)).1 := ⟨_, rfl⟩
              rw [← hva, zp_sgn_d hs17 hd18]
              show eb_P _ _ 43 [(1, .int (nI k)), (0, .ref 112)] (.int va :: [.int (nI k), .ref 118]) (n, sl, kd, (zpw Ja (2 * k + 1, nI (2 * k + 1))), L, R1) _
              refine ep_isN (k := k) dX11_winds_43 (hF.lt (by decide)) (hF.lx (by decide)) (hF.ka (by decide) rfl) (by omega) (by decide) ?_
              refine ep_eq (σ2 := (n, sl, kd, zpw (z_set Ja 118 k va) (2 * k + 1, nI (2 * k + 1)), L, R1)) rfl rfl rfl (by rw [zpw_st (by decide)]) ?_
              have hB20 : zB n kd I Rf T 40 (z_set Ja 118 k va) R1 := hBa.st (by decide)
              refine ep_iinc (v := (nI (k + 1))) (l' := [(1, .int ((nI (k + 1)))), (0, .ref 112)]) dX11_winds_44 rfl (nI_1 _) (by decide) rfl ?_
              refine ep_goto (tgt := 13) dX11_winds_47 (by decide) ?_
              exact ep_eq (l2 := [(1, .int (nI (k + 1))), (0, .ref 112)]) rfl rfl rfl rfl (ih ((z_set Ja 118 k va), (2 * k + 1, nI (2 * k + 1))) ⟨hB20, Or.inr ⟨2 * k + 1, 2 * k + 1, by omega, by omega, rfl, z_wif_d hM hO hgo hs17 hd18⟩⟩)
          · obtain ⟨va, hva⟩ : ∃ z, z = (zp_sgn (zhr (I 116) T.tx.length 40) 10 (2 * k, -1)).1 := ⟨_, rfl⟩
            rw [← hva, zp_sgn_n (by omega) hs17]
            show eb_P _ _ 43 [(1, .int (nI k)), (0, .ref 112)] (.int va :: [.int (nI k), .ref 118]) (n, sl, kd, (zpw Ja (2 * k + 1, nI (2 * k))), L, R1) _
            refine ep_isN (k := k) dX11_winds_43 (hF.lt (by decide)) (hF.lx (by decide)) (hF.ka (by decide) rfl) (by omega) (by decide) ?_
            refine ep_eq (σ2 := (n, sl, kd, zpw (z_set Ja 118 k va) (2 * k + 1, nI (2 * k)), L, R1)) rfl rfl rfl (by rw [zpw_st (by decide)]) ?_
            have hB21 : zB n kd I Rf T 40 (z_set Ja 118 k va) R1 := hBa.st (by decide)
            refine ep_iinc (v := (nI (k + 1))) (l' := [(1, .int ((nI (k + 1)))), (0, .ref 112)]) dX11_winds_44 rfl (nI_1 _) (by decide) rfl ?_
            refine ep_goto (tgt := 13) dX11_winds_47 (by decide) ?_
            exact ep_eq (l2 := [(1, .int (nI (k + 1))), (0, .ref 112)]) rfl rfl rfl rfl (ih ((z_set Ja 118 k va), (2 * k + 1, nI (2 * k))) ⟨hB21, Or.inr ⟨2 * k, 2 * k + 1, by omega, by omega, rfl, z_wif_s hM hO hgo hs17 (Or.inr c9)⟩⟩)
    · replace hsa : sa = (b, nI p) := hsa; subst hsa; replace hBa : zB n kd I Rf T 40 Ja R1 := hBa
      show eb_P _ _ 13 [(1, .int (nI k)), (0, .ref 112)] [] (n, sl, kd, (zpw Ja (b, nI p)), L, R1) _
      refine ep_aload_n (i := 0) dX11_winds_13 rfl rfl ?_
      refine ep_callV (M1 := mX11_fine) (rest := []) dX11_winds_14 mlX11_124 mvX11_fine rfl (hF.lt (by decide)) (hF.kc (by decide) rfl) (Nat.le_of_ble_eq_true rfl) rfl (eb_b0 (nI_nm1 _ (by omega)) (q_X11_fine (I := Ja) (L := L) (d + 19) hBa.P (s := (b, nI p)) (show b < 1000 by omega))) eb_rok ?_
      rintro _ _ ⟨rfl, rfl⟩
      show eb_P _ _ 17 [(1, .int (nI k)), (0, .ref 112)] (.int 0 :: []) _ _
      refine ep_if_eq (tgt := 50) dX11_winds_17 (by decide) (fun c22 => ?_) (fun c22 => absurd (by decide) c22)
      refine ep_aload_n (i := 0) dX11_winds_50 rfl rfl ?_
      refine ep_callV (M1 := mX11_wasRight) (rest := []) dX11_winds_51 mlX11_147 mvX11_wasRight rfl (hF.lt (by decide)) (hF.kc (by decide) rfl) (Nat.le_of_ble_eq_true rfl) rfl (q_X11_wasRight (I := Ja) (L := L) (d + 17) hBa.P (s := (b, nI p)) (show b < 1000 by omega)) (fun _ _ g => Or.inl (by rw [g.1])) ?_
      rw [zp_end_b (s := (b, nI p)) (p := p) rfl (by omega)]
      rintro _ _ ⟨rfl, ⟨hbad, rfl⟩ | ⟨_, rfl⟩⟩
      · exact absurd hbad (nI_nm1 _ (by omega))
      show eb_P _ _ 54 [(1, .int (nI k)), (0, .ref 112)] (.int 0 :: []) (n, sl, kd, (zpw Ja (b, nI p)), L, R1) _
      refine ep_if_ne (tgt := 64) dX11_winds_54 (by decide) (fun c23 => absurd c23 (by decide)) (fun c23 => ?_)
      refine ep_iconst (v := (-1)) dX11_winds_57 (by decide) ?_
      refine ep_aload_n (i := 0) dX11_winds_58 rfl rfl ?_
      refine ep_getI dX11_winds_59 flX11_117 (hF.lt (by decide)) (hF.kc (by decide) rfl) ?_
      refine ep_topE (y := nI p) zpw_14 ?_
      refine ep_isub dX11_winds_62 ?_
      refine ep_iret dX11_winds_63 rfl rfl ?_
      rw [s_winds_n (by omega) hno]
      exact hBa.no hM _
  · rintro ⟨Ja, sa⟩ ⟨hBa, ⟨hsa, hgo, hva⟩ | ⟨p, b, hp1, hp2, hsa, hno⟩⟩
    · have hz := (hgo 20 (by omega)).1
      rw [zM.hn (by omega)] at hz; exact absurd hz zsi_m
    · replace hsa : sa = (b, nI p) := hsa; subst hsa; replace hBa : zB n kd I Rf T 40 Ja R1 := hBa
      show eb_P _ _ 13 [(1, .int (nI 21)), (0, .ref 112)] [] (n, sl, kd, (zpw Ja (b, nI p)), L, R1) _
      refine ep_aload_n (i := 0) dX11_winds_13 rfl rfl ?_
      refine ep_callV (M1 := mX11_fine) (rest := []) dX11_winds_14 mlX11_124 mvX11_fine rfl (hF.lt (by decide)) (hF.kc (by decide) rfl) (Nat.le_of_ble_eq_true rfl) rfl (eb_b0 (nI_nm1 _ (by omega)) (q_X11_fine (I := Ja) (L := L) (d + 19) hBa.P (s := (b, nI p)) (show b < 1000 by omega))) eb_rok ?_
      rintro _ _ ⟨rfl, rfl⟩
      show eb_P _ _ 17 [(1, .int (nI 21)), (0, .ref 112)] (.int 0 :: []) _ _
      refine ep_if_eq (tgt := 50) dX11_winds_17 (by decide) (fun c24 => ?_) (fun c24 => absurd (by decide) c24)
      refine ep_aload_n (i := 0) dX11_winds_50 rfl rfl ?_
      refine ep_callV (M1 := mX11_wasRight) (rest := []) dX11_winds_51 mlX11_147 mvX11_wasRight rfl (hF.lt (by decide)) (hF.kc (by decide) rfl) (Nat.le_of_ble_eq_true rfl) rfl (q_X11_wasRight (I := Ja) (L := L) (d + 17) hBa.P (s := (b, nI p)) (show b < 1000 by omega)) (fun _ _ g => Or.inl (by rw [g.1])) ?_
      rw [zp_end_b (s := (b, nI p)) (p := p) rfl (by omega)]
      rintro _ _ ⟨rfl, ⟨hbad, rfl⟩ | ⟨_, rfl⟩⟩
      · exact absurd hbad (nI_nm1 _ (by omega))
      show eb_P _ _ 54 [(1, .int (nI 21)), (0, .ref 112)] (.int 0 :: []) (n, sl, kd, (zpw Ja (b, nI p)), L, R1) _
      refine ep_if_ne (tgt := 64) dX11_winds_54 (by decide) (fun c25 => absurd c25 (by decide)) (fun c25 => ?_)
      refine ep_iconst (v := (-1)) dX11_winds_57 (by decide) ?_
      refine ep_aload_n (i := 0) dX11_winds_58 rfl rfl ?_
      refine ep_getI dX11_winds_59 flX11_117 (hF.lt (by decide)) (hF.kc (by decide) rfl) ?_
      refine ep_topE (y := nI p) zpw_14 ?_
      refine ep_isub dX11_winds_62 ?_
      refine ep_iret dX11_winds_63 rfl rfl ?_
      rw [s_winds_n (by omega) hno]
      exact hBa.no hM _
theorem y_X11_winds {n : Nat} {sl : Nat × Nat} {kd : Nat → Nat × Nat} {I : Nat → Nat → Int32} {L : Nat → Nat → Int64} {Rf : Nat → Nat → Option Nat} (d : Nat) {T : zT} {H : Nat} (hM : zM n kd I L Rf T) (hO : zOk H T) : zq mX11_winds (d + 20) [.ref 112] (n, sl, kd, I, L, Rf) (zpM n sl kd I L Rf (some (.int (s_winds T).1)) (s_winds T).2) := zq_of_M hM (fun I7 R7 h => q_X11_winds d h hO)
