/-! the reference reads acts -/
theorem z_fa_y {v : Int32} (h : ¬ z_fa v = 4) : 0 < z_ln (z_fa v) ∧ z_st (z_ch (z_fa v) 0) v ∧ ¬ v = -1 := by
  have hs : ∀ c : Int32, c ∈ ([110, 116, 109, 101, 112, 115] : List Int32) → 0 < z_ln (z_fa c) ∧ z_st (z_ch (z_fa c) 0) c ∧ ¬ c = -1 := by unfold z_st; decide +kernel
  refine hs v ?_
  unfold z_fa at h
  by_cases h1 : v = 110
  · rw [h1]; decide
  by_cases h2 : v = 116
  · rw [h2]; decide
  by_cases h3 : v = 109
  · rw [h3]; decide
  by_cases h4 : v = 101
  · rw [h4]; decide
  by_cases h5 : v = 112
  · rw [h5]; decide
  by_cases h6 : v = 115
  · rw [h6]; decide
  rw [if_neg h1, if_neg h2, if_neg h3, if_neg h4, if_neg h5, if_neg h6] at h
  exact absurd rfl h
theorem z_fa_4 {v : Int32} (h1 : ¬ v = 110) (h2 : ¬ v = 116) (h3 : ¬ v = 109) (h4 : ¬ v = 101) (h5 : ¬ v = 112) (h6 : ¬ v = 115) : z_fa v = 4 := by
  unfold z_fa; rw [if_neg h1, if_neg h2, if_neg h3, if_neg h4, if_neg h5, if_neg h6]
/-- the first p signs are right; the form f is read up to o -/
def zwG (T : zT) (p f o : Nat) : Prop := p ≤ T.tx.length ∧ p ≤ 60 ∧ (∀ q, q < p → ¬ z_wbad T.tt q) ∧ z_wf T.tt p = (f, o)
theorem zwG.s0 {T : zT} : zwG T 0 4 0 := ⟨Nat.zero_le _, by decide, fun q hq => absurd hq (Nat.not_lt_zero q), rfl⟩
theorem z_wq_n {t : Nat → Int32} {p f o : Nat} (h : z_wf t p = (f, o)) (hf : z_ln f ≤ o) : z_wq t p = (z_fa (t p), 0) := by unfold z_wq; rw [h, if_pos hf]
theorem z_wq_i {t : Nat → Int32} {p f o : Nat} (h : z_wf t p = (f, o)) (hf : o < z_ln f) : z_wq t p = (f, o) := by unfold z_wq; rw [h, if_neg (Nat.not_le.mpr hf)]
theorem zwG.lt {n : Nat} {kd : Nat → Nat × Nat} {I : Nat → Nat → Int32} {L : Nat → Nat → Int64} {Rf : Nat → Nat → Option Nat} {T : zT} {H : Nat} (hM : zM n kd I L Rf T) (hO : zOk H T) {p : Nat} (h : ¬ zhr (I 116) T.tx.length 60 p = -1) : p < T.tx.length ∧ p < 60 := by
  by_cases e : p < T.tx.length ∧ p < 60
  · exact e
  · exact absurd (zM.hn e) h
theorem zwG.nw {n : Nat} {kd : Nat → Nat × Nat} {I : Nat → Nat → Int32} {L : Nat → Nat → Int64} {Rf : Nat → Nat → Option Nat} {T : zT} {H : Nat} (hM : zM n kd I L Rf T) (hO : zOk H T) {p f o : Nat} (h : zwG T p f o) (hf : z_ln f ≤ o) (hv : ¬ z_fa (zhr (I 116) T.tx.length 60 p) = 4) : zwG T (p + 1) (z_fa (T.tt p)) 1 ∧ p < T.tx.length ∧ p < 60 := by
  have hy := z_fa_y hv
  have e := zwG.lt hM hO hy.2.2
  rw [hM.hr hO e.1 e.2] at hy
  refine ⟨⟨by omega, by omega, fun q hq => ?_, by rw [z_wf_succ, z_wq_n h.2.2.2 hf]⟩, e⟩
  by_cases g : q = p
  · rw [g]; unfold z_wbad; rw [z_wq_n h.2.2.2 hf]
    rintro (g | g | g)
    · omega
    · exact absurd g (Nat.not_le.mpr hy.1)
    · exact g hy.2.1
  · exact h.2.2.1 q (by omega)
theorem zwG.nn {n : Nat} {kd : Nat → Nat × Nat} {I : Nat → Nat → Int32} {L : Nat → Nat → Int64} {Rf : Nat → Nat → Option Nat} {T : zT} {H : Nat} (hM : zM n kd I L Rf T) (hO : zOk H T) {p f o : Nat} (h : zwG T p f o) (hf : z_ln f ≤ o) (hp : p < T.tx.length) (hv : z_fa (zhr (I 116) T.tx.length 60 p) = 4) : z_waf T.tt T.tx.length (nI p) := by
  have h1 := h.2.1
  refine ⟨nI p, Or.inl ⟨p, hp, ?_, h.2.2.1, rfl⟩, by rw [if_neg (fun g => nI_nm1 _ (by omega) g.1)]⟩
  by_cases g : p < 60
  · rw [hM.hr hO hp g] at hv
    unfold z_wbad
    rw [z_wq_n h.2.2.2 hf, show z_fa (T.tt p) = 4 from hv]
    exact Or.inr (Or.inl (by decide))
  · exact Or.inl (by omega)
theorem zwG.nx {n : Nat} {kd : Nat → Nat × Nat} {I : Nat → Nat → Int32} {L : Nat → Nat → Int64} {Rf : Nat → Nat → Option Nat} {T : zT} {H : Nat} (hM : zM n kd I L Rf T) (hO : zOk H T) {p f o : Nat} (h : zwG T p f o) (hf : o < z_ln f) (hs : z_st (z_ch f o) (zhr (I 116) T.tx.length 60 p)) (hv : ¬ zhr (I 116) T.tx.length 60 p = -1) : zwG T (p + 1) f (o + 1) := by
  have e := zwG.lt hM hO hv
  rw [hM.hr hO e.1 e.2] at hs
  refine ⟨by omega, by omega, fun q hq => ?_, by rw [z_wf_succ, z_wq_i h.2.2.2 hf]⟩
  by_cases g : q = p
  · rw [g]; unfold z_wbad; rw [z_wq_i h.2.2.2 hf]
    rintro (g | g | g)
    · omega
    · exact absurd g (Nat.not_le.mpr hf)
    · exact g hs
  · exact h.2.2.1 q (by omega)
theorem zwG.no {n : Nat} {kd : Nat → Nat × Nat} {I : Nat → Nat → Int32} {L : Nat → Nat → Int64} {Rf : Nat → Nat → Option Nat} {T : zT} {H : Nat} (hM : zM n kd I L Rf T) (hO : zOk H T) {p f o : Nat} (h : zwG T p f o) (hf : o < z_ln f) (hs : ¬ z_st (z_ch f o) (zhr (I 116) T.tx.length 60 p)) : z_waf T.tt T.tx.length (nI p) := by
  have h1 := h.1; have h2 := h.2.1
  by_cases e : p < T.tx.length
  · refine ⟨nI p, Or.inl ⟨p, e, ?_, h.2.2.1, rfl⟩, by rw [if_neg (fun g => nI_nm1 _ (by omega) g.1)]⟩
    by_cases g : p < 60
    · rw [hM.hr hO e g] at hs
      unfold z_wbad
      rw [z_wq_i h.2.2.2 hf]
      exact Or.inr (Or.inr hs)
    · exact Or.inl (by omega)
  · have e2 : p = T.tx.length := by omega
    refine ⟨-1, Or.inr ⟨fun q hq => h.2.2.1 q (by omega), rfl⟩, ?_⟩
    rw [← e2, h.2.2.2, if_pos ⟨rfl, hf⟩]
theorem zwG.en {T : zT} {p f o : Nat} (h : zwG T p f o) (hf : z_ln f ≤ o) (hp : p = T.tx.length) : z_waf T.tt T.tx.length (-1) := by
  refine ⟨-1, Or.inr ⟨fun q hq => h.2.2.1 q (by omega), rfl⟩, ?_⟩
  rw [← hp, h.2.2.2, if_neg (fun g => absurd g.2 (Nat.not_lt.mpr hf))]
abbrev zd9 (v : Int32) : Prop := 49 ≤ v ∧ v ≤ 49 + 9 - 1
theorem zd9_i {v : Int32} : zd9 v ↔ 49 ≤ v ∧ v ≤ 57 := by unfold zd9; rw [show (49 : Int32) + 9 - 1 = 57 from by decide]
theorem zd9_m : ¬ zd9 (-1) := by decide
theorem zd9_ne {v : Int32} (h : zd9 v) : ¬ v = -1 := fun e => zd9_m (e ▸ h)
theorem z_st49 {v : Int32} : z_st 49 v ↔ zd9 v := by
  rw [zd9_i]
  unfold z_st
  constructor
  · rintro (⟨g, _⟩ | ⟨g, _⟩ | ⟨_, g⟩ | ⟨g, _⟩ | ⟨_, _, g, _⟩)
    · exact absurd g (by decide)
    · exact absurd g (by decide)
    · exact g
    · exact absurd g (by decide)
    · exact absurd rfl g
  · intro g; exact Or.inr (Or.inr (Or.inl ⟨rfl, g⟩))
theorem z_491 (v : Int32) : v - 49 + 1 = v - 48 := by
  rw [Int32.sub_eq_add_neg, Int32.add_assoc, Int32.sub_eq_add_neg]; rfl
theorem z_dig_k : ∀ v, v < 256 → (48 : Int32) ≤ nI v ∧ nI v ≤ 57 → ∃ k, k < 10 ∧ nI v - 48 = nI k := by decide +kernel
/-- the act k stands at p -/
def zac (T : zT) (J : Nat → Nat → Int32) (k p : Nat) : Prop := J 125 (3 * k) = T.tt p ∧ J 125 (3 * k + 1) = T.tt (p + 1) - 48 ∧ (∃ v, v < 10 ∧ T.tt (p + 1) - 48 = nI v) ∧ (T.tt p = 116 ∨ T.tt p = 112 → J 125 (3 * k + 2) = T.tt (p + 2) - 48) ∧ (T.tt p = 109 → J 125 (3 * k + 2) = z_sg T.tt (p + 2)) ∧ ¬ z_fa (T.tt p) = 4
theorem zac_dg {n : Nat} {kd : Nat → Nat × Nat} {I : Nat → Nat → Int32} {L : Nat → Nat → Int64} {Rf : Nat → Nat → Option Nat} {T : zT} {H : Nat} (hM : zM n kd I L Rf T) (hO : zOk H T) {p : Nat} (h1 : p < T.tx.length) (h2 : p < 60) (h : zdg (zhr (I 116) T.tx.length 60 p)) : ∃ v, v < 10 ∧ T.tt p - 48 = nI v := by
  rw [hM.hr hO h1 h2, zdg_i] at h
  obtain ⟨v, hv, e⟩ := hO.tx p h1
  rw [e] at h
  show ∃ w, w < 10 ∧ T.tx.getD p 0 - 48 = nI w
  rw [e]; exact z_dig_k v hv h
/-- behind an act's reading -/
def zpA (n : Nat) (sl : Nat × Nat) (kd : Nat → Nat × Nat) (I J : Nat → Nat → Int32) (L : Nat → Nat → Int64) (Rf R1 : Nat → Nat → Option Nat) (T : zT) (k p : Nat) : Option Value → eb_S → Prop := fun r τ => r = none ∧ ∃ J1 s1, τ = (n, sl, kd, zpw J1 s1, L, R1) ∧ zB n kd I Rf T 60 J1 R1 ∧ (∀ q, q < 3 * k → J1 125 q = J 125 q) ∧ ((s1 = (p + z_ln (z_fa (T.tt p)), -1) ∧ zwG T (p + z_ln (z_fa (T.tt p))) (z_fa (T.tt p)) (z_ln (z_fa (T.tt p))) ∧ zac T J1 k p) ∨ ∃ q b, q < 200 ∧ b < 200 ∧ s1 = (b, nI q) ∧ z_waf T.tt T.tx.length (nI q))
theorem q_X11_readAct {n : Nat} {sl : Nat × Nat} {kd : Nat → Nat × Nat} {I : Nat → Nat → Int32} {L : Nat → Nat → Int64} {Rf : Nat → Nat → Option Nat} {J : Nat → Nat → Int32} {R1 : Nat → Nat → Option Nat} (d : Nat) {T : zT} {H : Nat} (hM : zM n kd I L Rf T) (hO : zOk H T) {k p f o : Nat} (hB : zB n kd I Rf T 60 J R1) (hG : zwG T p f o) (hf : z_ln f ≤ o) (hp : p < T.tx.length) (hk : k < 31) : eb_Q mX11_readAct (d + 20) [.ref 112, .int (nI (3 * k))] (n, sl, kd, zpw J (p, -1), L, R1) (zpA n sl kd I J L Rf R1 T k p) := by
  have hF := hB.P.F; have hc7 := hO.c; have hx8 := hO.txl; have hp60 := hG.2.1
  refine ep_meth pn_X.2.2.2.2.2.2.2.2.2.2.2 (Nat.le_of_ble_eq_true rfl) ?_
  show eb_P _ _ 0 [(0, .ref 112), (1, .int (nI (3 * k)))] [] (n, sl, kd, zpw J (p, -1), L, R1) _
  refine ep_aload_n (i := 0) dX11_readAct_0 rfl rfl ?_
  refine ep_callV (M1 := mX11_here) (rest := []) dX11_readAct_1 mlX11_128 mvX11_here rfl (hF.lt (by decide)) (hF.kc (by decide) rfl) (Nat.le_of_ble_eq_true rfl) rfl (q_X11_here (I := J) (L := L) (d + 19) hB.P (s := (p, -1)) (show p < 1000 by omega)) eb_rok ?_
  rintro _ _ ⟨rfl, rfl⟩
  show eb_P _ _ 4 [(0, .ref 112), (1, .int (nI (3 * k)))] (.int ((zhr (I 116) T.tx.length 60) p) :: []) _ _
  refine ep_istore_n (l' := [(2, .int ((zhr (I 116) T.tx.length 60) p)), (0, .ref 112), (1, .int (nI (3 * k)))]) dX11_readAct_4 rfl (by decide) rfl ?_
  refine ep_iload_n (i := 2) dX11_readAct_5 rfl rfl ?_
  refine ep_bipush (v := 110) dX11_readAct_6 (by decide) ?_
  refine ep_icmp_eq (tgt := 50) dX11_readAct_8 (by decide) (fun c1 => ?_) (fun c1 => ?_)
  · skip
    refine ep_aload_n (i := 0) dX11_readAct_50 rfl rfl ?_
    refine ep_dup dX11_readAct_51 rfl ?_
    refine ep_getI dX11_readAct_52 flX11_114 (hF.lt (by decide)) (hF.kc (by decide) rfl) ?_
    refine ep_topE (y := nI p) zpw_13 ?_
    refine ep_iconst (v := 1) dX11_readAct_55 (by decide) ?_
    refine ep_iadd dX11_readAct_56 ?_
    refine ep_topE (y := nI (p + 1)) (nI_add _ _) ?_
    refine ep_pI dX11_readAct_57 plX11_114 (hF.lt (by decide)) (hF.lx (by decide)) (hF.kc (by decide) rfl) rfl rfl ?_
    refine ep_eq (σ2 := (n, sl, kd, zpw J (p + 1, -1), L, R1)) rfl rfl rfl (by rw [zpw_s13]) ?_
    refine ep_aload_n (i := 0) dX11_readAct_60 rfl rfl ?_
    refine ep_getR dX11_readAct_61 flX11_52 (hF.lt (by decide)) (hF.kc (by decide) rfl) (hF.pt 118 rfl) ?_
    refine ep_iload_n (i := 1) dX11_readAct_64 rfl rfl ?_
    refine ep_iload_n (i := 2) dX11_readAct_65 rfl rfl ?_
    refine ep_isN (k := (3 * k)) dX11_readAct_66 (hF.lt (by decide)) (hF.lx (by decide)) (hF.ka (by decide) rfl) (by omega) (by decide) ?_
    refine ep_eq (σ2 := (n, sl, kd, zpw (z_set J 125 (3 * k) ((zhr (I 116) T.tx.length 60) p)) (p + 1, -1), L, R1)) rfl rfl rfl (by rw [zpw_st (by decide)]) ?_
    have hB2 : zB n kd I Rf T 60 (z_set J 125 (3 * k) ((zhr (I 116) T.tx.length 60) p)) R1 := hB.st (by decide)
    refine ep_aload_n (i := 0) dX11_readAct_67 rfl rfl ?_
    refine ep_getR dX11_readAct_68 flX11_52 (hF.lt (by decide)) (hF.kc (by decide) rfl) (hF.pt 118 rfl) ?_
    refine ep_iload_n (i := 1) dX11_readAct_71 rfl rfl ?_
    refine ep_iconst (v := 1) dX11_readAct_72 (by decide) ?_
    refine ep_iadd dX11_readAct_73 ?_
    refine ep_topE (y := nI ((3 * k) + 1)) (nI_add _ _) ?_
    refine ep_aload_n (i := 0) dX11_readAct_74 rfl rfl ?_
    refine ep_bipush (v := 48) dX11_readAct_75 (by decide) ?_
    refine ep_bipush (v := 10) dX11_readAct_77 (by decide) ?_
    refine ep_callV (M1 := mX11_oneOf) (rest := [.int (nI ((3 * k) + 1)), .ref 125]) dX11_readAct_79 mlX11_140 mvX11_oneOf rfl (hF.lt (by decide)) (hF.kc (by decide) rfl) (Nat.le_of_ble_eq_true rfl) rfl (q_X11_oneOf (I := (z_set J 125 (3 * k) ((zhr (I 116) T.tx.length 60) p))) (L := L) (d + 17) hB2.P (s := (p + 1, -1)) (show p + 1 < 1000 by omega) (a := 48) (k := 10) (by decide) z_hk10) (fun _ _ g => Or.inl (by rw [g.1])) ?_
    rintro _ _ ⟨rfl, rfl⟩
    by_cases hd3 : 48 ≤ (zhr (I 116) T.tx.length 60) (p + 1) ∧ (zhr (I 116) T.tx.length 60) (p + 1) ≤ 48 + 10 - 1
    · rw [zp_one_y hd3]
      show eb_P _ _ 82 [(2, .int ((zhr (I 116) T.tx.length 60) p)), (0, .ref 112), (1, .int (nI (3 * k)))] (.int ((zhr (I 116) T.tx.length 60) (p + 1) - 48) :: [.int (nI ((3 * k) + 1)), .ref 125]) (n, sl, kd, (zpw (z_set J 125 (3 * k) ((zhr (I 116) T.tx.length 60) p)) (p + 1 + 1, -1)), L, R1) _
      refine ep_isN (k := ((3 * k) + 1)) dX11_readAct_82 (hF.lt (by decide)) (hF.lx (by decide)) (hF.ka (by decide) rfl) (by omega) (by decide) ?_
      refine ep_eq (σ2 := (n, sl, kd, zpw (z_set (z_set J 125 (3 * k) ((zhr (I 116) T.tx.length 60) p)) 125 ((3 * k) + 1) ((zhr (I 116) T.tx.length 60) (p + 1) - 48)) (p + 1 + 1, -1), L, R1)) rfl rfl rfl (by rw [zpw_st (by decide)]) ?_
      have hB4 : zB n kd I Rf T 60 (z_set (z_set J 125 (3 * k) ((zhr (I 116) T.tx.length 60) p)) 125 ((3 * k) + 1) ((zhr (I 116) T.tx.length 60) (p + 1) - 48)) R1 := hB2.st (by decide)
      refine ep_iload_n (i := 2) dX11_readAct_83 rfl rfl ?_
      refine ep_bipush (v := 116) dX11_readAct_84 (by decide) ?_
      refine ep_icmp_ne (tgt := 105) dX11_readAct_86 (by decide) (fun c5 => ?_) (fun c5 => absurd (by rw [c1]; decide) c5)
      refine ep_iload_n (i := 2) dX11_readAct_105 rfl rfl ?_
      refine ep_bipush (v := 109) dX11_readAct_106 (by decide) ?_
      refine ep_icmp_ne (tgt := 125) dX11_readAct_108 (by decide) (fun c6 => ?_) (fun c6 => absurd (by rw [c1]; decide) c6)
      refine ep_iload_n (i := 2) dX11_readAct_125 rfl rfl ?_
      refine ep_bipush (v := 112) dX11_readAct_126 (by decide) ?_
      refine ep_icmp_ne (tgt := 149) dX11_readAct_128 (by decide) (fun c7 => ?_) (fun c7 => absurd (by rw [c1]; decide) c7)
      refine ep_vret dX11_readAct_149 rfl ?_
      have hv4 : ¬ z_fa ((zhr (I 116) T.tx.length 60) p) = 4 := by rw [c1]; decide
      obtain ⟨hG1, hp1, hp2⟩ := hG.nw hM hO hf hv4
      have ht : T.tt p = 110 := (hM.hr hO hp1 hp2 (tp := 60)).symm.trans c1
      rw [show z_fa (T.tt p) = 5 from by rw [ht]; decide] at hG1
      have hG2 : zwG T (p + 2) 5 2 := hG1.nx hM hO (by decide) (z_st57.2 hd3) (zdg_ne hd3)
      have hge := hG2.1; have hgf := hG2.2.1
      refine ⟨rfl, (z_set (z_set J 125 (3 * k) ((zhr (I 116) T.tx.length 60) p)) 125 ((3 * k) + 1) ((zhr (I 116) T.tx.length 60) (p + 1) - 48)), (p + 1 + 1, -1), rfl, hB4, (fun q hq => by rw [z_set_nk (by omega), z_set_nk (by omega)]), Or.inl ⟨?_, ?_, ?_⟩⟩
      · rw [show z_fa (T.tt p) = 5 from by rw [ht]; decide]; rfl
      · rw [show z_fa (T.tt p) = 5 from by rw [ht]; decide]; exact hG2
      · exact ⟨by rw [z_set_nk (by omega), z_set_at, hM.hr hO hp1 hp2], by rw [z_set_at, hM.hr hO (by omega) (by omega)], zac_dg hM hO (by omega) (by omega) hd3, fun g => absurd g (by rw [ht]; decide), fun g => absurd g (by rw [ht]; decide), by rw [ht]; decide⟩
    · rw [zp_one_n hd3]
      show eb_P _ _ 82 [(2, .int ((zhr (I 116) T.tx.length 60) p)), (0, .ref 112), (1, .int (nI (3 * k)))] (.int 0 :: [.int (nI ((3 * k) + 1)), .ref 125]) (n, sl, kd, (zpw (z_set J 125 (3 * k) ((zhr (I 116) T.tx.length 60) p)) (p + 1, nI (p + 1))), L, R1) _
      refine ep_isN (k := ((3 * k) + 1)) dX11_readAct_82 (hF.lt (by decide)) (hF.lx (by decide)) (hF.ka (by decide) rfl) (by omega) (by decide) ?_
      refine ep_eq (σ2 := (n, sl, kd, zpw (z_set (z_set J 125 (3 * k) ((zhr (I 116) T.tx.length 60) p)) 125 ((3 * k) + 1) 0) (p + 1, nI (p + 1)), L, R1)) rfl rfl rfl (by rw [zpw_st (by decide)]) ?_
      have hB8 : zB n kd I Rf T 60 (z_set (z_set J 125 (3 * k) ((zhr (I 116) T.tx.length 60) p)) 125 ((3 * k) + 1) 0) R1 := hB2.st (by decide)
      refine ep_iload_n (i := 2) dX11_readAct_83 rfl rfl ?_
      refine ep_bipush (v := 116) dX11_readAct_84 (by decide) ?_
      refine ep_icmp_ne (tgt := 105) dX11_readAct_86 (by decide) (fun c9 => ?_) (fun c9 => absurd (by rw [c1]; decide) c9)
      refine ep_iload_n (i := 2) dX11_readAct_105 rfl rfl ?_
      refine ep_bipush (v := 109) dX11_readAct_106 (by decide) ?_
      refine ep_icmp_ne (tgt := 125) dX11_readAct_108 (by decide) (fun c10 => ?_) (fun c10 => absurd (by rw [c1]; decide) c10)
      refine ep_iload_n (i := 2) dX11_readAct_125 rfl rfl ?_
      refine ep_bipush (v := 112) dX11_readAct_126 (by decide) ?_
      refine ep_icmp_ne (tgt := 149) dX11_readAct_128 (by decide) (fun c11 => ?_) (fun c11 => absurd (by rw [c1]; decide) c11)
      refine ep_vret dX11_readAct_149 rfl ?_
      have hv4 : ¬ z_fa ((zhr (I 116) T.tx.length 60) p) = 4 := by rw [c1]; decide
      obtain ⟨hG1, hp1, hp2⟩ := hG.nw hM hO hf hv4
      have ht : T.tt p = 110 := (hM.hr hO hp1 hp2 (tp := 60)).symm.trans c1
      rw [show z_fa (T.tt p) = 5 from by rw [ht]; decide] at hG1
      exact ⟨rfl, (z_set (z_set J 125 (3 * k) ((zhr (I 116) T.tx.length 60) p)) 125 ((3 * k) + 1) 0), (p + 1, nI (p + 1)), rfl, hB8, (fun q hq => by rw [z_set_nk (by omega), z_set_nk (by omega)]), Or.inr ⟨(p + 1), p + 1, by omega, by omega, rfl, hG1.no hM hO (by decide) (fun g => hd3 (z_st57.1 g))⟩⟩
  · skip
    refine ep_iload_n (i := 2) dX11_readAct_11 rfl rfl ?_
    refine ep_bipush (v := 116) dX11_readAct_12 (by decide) ?_
    refine ep_icmp_eq (tgt := 50) dX11_readAct_14 (by decide) (fun c12 => ?_) (fun c12 => ?_)
    · skip
      refine ep_aload_n (i := 0) dX11_readAct_50 rfl rfl ?_
      refine ep_dup dX11_readAct_51 rfl ?_
      refine ep_getI dX11_readAct_52 flX11_114 (hF.lt (by decide)) (hF.kc (by decide) rfl) ?_
      refine ep_topE (y := nI p) zpw_13 ?_
      refine ep_iconst (v := 1) dX11_readAct_55 (by decide) ?_
      refine ep_iadd dX11_readAct_56 ?_
      refine ep_topE (y := nI (p + 1)) (nI_add _ _) ?_
      refine ep_pI dX11_readAct_57 plX11_114 (hF.lt (by decide)) (hF.lx (by decide)) (hF.kc (by decide) rfl) rfl rfl ?_
      refine ep_eq (σ2 := (n, sl, kd, zpw J (p + 1, -1), L, R1)) rfl rfl rfl (by rw [zpw_s13]) ?_
      refine ep_aload_n (i := 0) dX11_readAct_60 rfl rfl ?_
      refine ep_getR dX11_readAct_61 flX11_52 (hF.lt (by decide)) (hF.kc (by decide) rfl) (hF.pt 118 rfl) ?_
      refine ep_iload_n (i := 1) dX11_readAct_64 rfl rfl ?_
      refine ep_iload_n (i := 2) dX11_readAct_65 rfl rfl ?_
      refine ep_isN (k := (3 * k)) dX11_readAct_66 (hF.lt (by decide)) (hF.lx (by decide)) (hF.ka (by decide) rfl) (by omega) (by decide) ?_
      refine ep_eq (σ2 := (n, sl, kd, zpw (z_set J 125 (3 * k) ((zhr (I 116) T.tx.length 60) p)) (p + 1, -1), L, R1)) rfl rfl rfl (by rw [zpw_st (by decide)]) ?_
      have hB13 : zB n kd I Rf T 60 (z_set J 125 (3 * k) ((zhr (I 116) T.tx.length 60) p)) R1 := hB.st (by decide)
      refine ep_aload_n (i := 0) dX11_readAct_67 rfl rfl ?_
      refine ep_getR dX11_readAct_68 flX11_52 (hF.lt (by decide)) (hF.kc (by decide) rfl) (hF.pt 118 rfl) ?_
      refine ep_iload_n (i := 1) dX11_readAct_71 rfl rfl ?_
      refine ep_iconst (v := 1) dX11_readAct_72 (by decide) ?_
      refine ep_iadd dX11_readAct_73 ?_
      refine ep_topE (y := nI ((3 * k) + 1)) (nI_add _ _) ?_
      refine ep_aload_n (i := 0) dX11_readAct_74 rfl rfl ?_
      refine ep_bipush (v := 48) dX11_readAct_75 (by decide) ?_
      refine ep_bipush (v := 10) dX11_readAct_77 (by decide) ?_
      refine ep_callV (M1 := mX11_oneOf) (rest := [.int (nI ((3 * k) + 1)), .ref 125]) dX11_readAct_79 mlX11_140 mvX11_oneOf rfl (hF.lt (by decide)) (hF.kc (by decide) rfl) (Nat.le_of_ble_eq_true rfl) rfl (q_X11_oneOf (I := (z_set J 125 (3 * k) ((zhr (I 116) T.tx.length 60) p))) (L := L) (d + 17) hB13.P (s := (p + 1, -1)) (show p + 1 < 1000 by omega) (a := 48) (k := 10) (by decide) z_hk10) (fun _ _ g => Or.inl (by rw [g.1])) ?_
      rintro _ _ ⟨rfl, rfl⟩
      by_cases hd14 : 48 ≤ (zhr (I 116) T.tx.length 60) (p + 1) ∧ (zhr (I 116) T.tx.length 60) (p + 1) ≤ 48 + 10 - 1
      · rw [zp_one_y hd14]
        show eb_P _ _ 82 [(2, .int ((zhr (I 116) T.tx.length 60) p)), (0, .ref 112), (1, .int (nI (3 * k)))] (.int ((zhr (I 116) T.tx.length 60) (p + 1) - 48) :: [.int (nI ((3 * k) + 1)), .ref 125]) (n, sl, kd, (zpw (z_set J 125 (3 * k) ((zhr (I 116) T.tx.length 60) p)) (p + 1 + 1, -1)), L, R1) _
        refine ep_isN (k := ((3 * k) + 1)) dX11_readAct_82 (hF.lt (by decide)) (hF.lx (by decide)) (hF.ka (by decide) rfl) (by omega) (by decide) ?_
        refine ep_eq (σ2 := (n, sl, kd, zpw (z_set (z_set J 125 (3 * k) ((zhr (I 116) T.tx.length 60) p)) 125 ((3 * k) + 1) ((zhr (I 116) T.tx.length 60) (p + 1) - 48)) (p + 1 + 1, -1), L, R1)) rfl rfl rfl (by rw [zpw_st (by decide)]) ?_
        have hB15 : zB n kd I Rf T 60 (z_set (z_set J 125 (3 * k) ((zhr (I 116) T.tx.length 60) p)) 125 ((3 * k) + 1) ((zhr (I 116) T.tx.length 60) (p + 1) - 48)) R1 := hB13.st (by decide)
        refine ep_iload_n (i := 2) dX11_readAct_83 rfl rfl ?_
        refine ep_bipush (v := 116) dX11_readAct_84 (by decide) ?_
        refine ep_icmp_ne (tgt := 105) dX11_readAct_86 (by decide) (fun c16 => absurd c16 (fun g => g c12)) (fun c16 => ?_)
        refine ep_aload_n (i := 0) dX11_readAct_89 rfl rfl ?_
        refine ep_getR dX11_readAct_90 flX11_52 (hF.lt (by decide)) (hF.kc (by decide) rfl) (hF.pt 118 rfl) ?_
        refine ep_iload_n (i := 1) dX11_readAct_93 rfl rfl ?_
        refine ep_iconst (v := 2) dX11_readAct_94 (by decide) ?_
        refine ep_iadd dX11_readAct_95 ?_
        refine ep_topE (y := nI ((3 * k) + 2)) (nI_add _ _) ?_
        refine ep_aload_n (i := 0) dX11_readAct_96 rfl rfl ?_
        refine ep_bipush (v := 48) dX11_readAct_97 (by decide) ?_
        refine ep_bipush (v := 6) dX11_readAct_99 (by decide) ?_
        refine ep_callV (M1 := mX11_oneOf) (rest := [.int (nI ((3 * k) + 2)), .ref 125]) dX11_readAct_101 mlX11_140 mvX11_oneOf rfl (hF.lt (by decide)) (hF.kc (by decide) rfl) (Nat.le_of_ble_eq_true rfl) rfl (q_X11_oneOf (I := (z_set (z_set J 125 (3 * k) ((zhr (I 116) T.tx.length 60) p)) 125 ((3 * k) + 1) ((zhr (I 116) T.tx.length 60) (p + 1) - 48))) (L := L) (d + 17) hB15.P (s := (p + 1 + 1, -1)) (show p + 1 + 1 < 1000 by omega) (a := 48) (k := 6) (by decide) z_hk6) (fun _ _ g => Or.inl (by rw [g.1])) ?_
        rintro _ _ ⟨rfl, rfl⟩
        by_cases hd17 : 48 ≤ (zhr (I 116) T.tx.length 60) (p + 1 + 1) ∧ (zhr (I 116) T.tx.length 60) (p + 1 + 1) ≤ 48 + 6 - 1
        · rw [zp_one_y hd17]
          show eb_P _ _ 104 [(2, .int ((zhr (I 116) T.tx.length 60) p)), (0, .ref 112), (1, .int (nI (3 * k)))] (.int ((zhr (I 116) T.tx.length 60) (p + 1 + 1) - 48) :: [.int (nI ((3 * k) + 2)), .ref 125]) (n, sl, kd, (zpw (z_set (z_set J 125 (3 * k) ((zhr (I 116) T.tx.length 60) p)) 125 ((3 * k) + 1) ((zhr (I 116) T.tx.length 60) (p + 1) - 48)) (p + 1 + 1 + 1, -1)), L, R1) _
          refine ep_isN (k := ((3 * k) + 2)) dX11_readAct_104 (hF.lt (by decide)) (hF.lx (by decide)) (hF.ka (by decide) rfl) (by omega) (by decide) ?_
          refine ep_eq (σ2 := (n, sl, kd, zpw (z_set (z_set (z_set J 125 (3 * k) ((zhr (I 116) T.tx.length 60) p)) 125 ((3 * k) + 1) ((zhr (I 116) T.tx.length 60) (p + 1) - 48)) 125 ((3 * k) + 2) ((zhr (I 116) T.tx.length 60) (p + 1 + 1) - 48)) (p + 1 + 1 + 1, -1), L, R1)) rfl rfl rfl (by rw [zpw_st (by decide)]) ?_
          have hB18 : zB n kd I Rf T 60 (z_set (z_set (z_set J 125 (3 * k) ((zhr (I 116) T.tx.length 60) p)) 125 ((3 * k) + 1) ((zhr (I 116) T.tx.length 60) (p + 1) - 48)) 125 ((3 * k) + 2) ((zhr (I 116) T.tx.length 60) (p + 1 + 1) - 48)) R1 := hB15.st (by decide)
          refine ep_iload_n (i := 2) dX11_readAct_105 rfl rfl ?_
          refine ep_bipush (v := 109) dX11_readAct_106 (by decide) ?_
          refine ep_icmp_ne (tgt := 125) dX11_readAct_108 (by decide) (fun c19 => ?_) (fun c19 => absurd (by rw [c12]; decide) c19)
          refine ep_iload_n (i := 2) dX11_readAct_125 rfl rfl ?_
          refine ep_bipush (v := 112) dX11_readAct_126 (by decide) ?_
          refine ep_icmp_ne (tgt := 149) dX11_readAct_128 (by decide) (fun c20 => ?_) (fun c20 => absurd (by rw [c12]; decide) c20)
          refine ep_vret dX11_readAct_149 rfl ?_
          have hv4 : ¬ z_fa ((zhr (I 116) T.tx.length 60) p) = 4 := by rw [c12]; decide
          obtain ⟨hG1, hp1, hp2⟩ := hG.nw hM hO hf hv4
          have ht : T.tt p = 116 := (hM.hr hO hp1 hp2 (tp := 60)).symm.trans c12
          rw [show z_fa (T.tt p) = 6 from by rw [ht]; decide] at hG1
          have hG2 : zwG T (p + 2) 6 2 := hG1.nx hM hO (by decide) (z_st57.2 hd14) (zdg_ne hd14)
          have hG3 : zwG T (p + 3) 6 3 := hG2.nx hM hO (by decide) (z_st53.2 hd17) (zd6_ne hd17)
          have hge := hG3.1; have hgf := hG3.2.1
          refine ⟨rfl, (z_set (z_set (z_set J 125 (3 * k) ((zhr (I 116) T.tx.length 60) p)) 125 ((3 * k) + 1) ((zhr (I 116) T.tx.length 60) (p + 1) - 48)) 125 ((3 * k) + 2) ((zhr (I 116) T.tx.length 60) (p + 1 + 1) - 48)), (p + 1 + 1 + 1, -1), rfl, hB18, (fun q hq => by rw [z_set_nk (by omega), z_set_nk (by omega), z_set_nk (by omega)]), Or.inl ⟨?_, ?_, ?_⟩⟩
          · rw [show z_fa (T.tt p) = 6 from by rw [ht]; decide]; rfl
          · rw [show z_fa (T.tt p) = 6 from by rw [ht]; decide]; exact hG3
          · exact ⟨by rw [z_set_nk (by omega), z_set_nk (by omega), z_set_at, hM.hr hO hp1 hp2], by rw [z_set_nk (by omega), z_set_at, hM.hr hO (by omega) (by omega)], zac_dg hM hO (by omega) (by omega) hd14, fun _ => by rw [z_set_at, hM.hr hO (by omega) (by omega)], fun g => absurd g (by rw [ht]; decide), by rw [ht]; decide⟩
        · rw [zp_one_n hd17]
          show eb_P _ _ 104 [(2, .int ((zhr (I 116) T.tx.length 60) p)), (0, .ref 112), (1, .int (nI (3 * k)))] (.int 0 :: [.int (nI ((3 * k) + 2)), .ref 125]) (n, sl, kd, (zpw (z_set (z_set J 125 (3 * k) ((zhr (I 116) T.tx.length 60) p)) 125 ((3 * k) + 1) ((zhr (I 116) T.tx.length 60) (p + 1) - 48)) (p + 1 + 1, nI (p + 1 + 1))), L, R1) _
          refine ep_isN (k := ((3 * k) + 2)) dX11_readAct_104 (hF.lt (by decide)) (hF.lx (by decide)) (hF.ka (by decide) rfl) (by omega) (by decide) ?_
          refine ep_eq (σ2 := (n, sl, kd, zpw (z_set (z_set (z_set J 125 (3 * k) ((zhr (I 116) T.tx.length 60) p)) 125 ((3 * k) + 1) ((zhr (I 116) T.tx.length 60) (p + 1) - 48)) 125 ((3 * k) + 2) 0) (p + 1 + 1, nI (p + 1 + 1)), L, R1)) rfl rfl rfl (by rw [zpw_st (by decide)]) ?_
          have hB21 : zB n kd I Rf T 60 (z_set (z_set (z_set J 125 (3 * k) ((zhr (I 116) T.tx.length 60) p)) 125 ((3 * k) + 1) ((zhr (I 116) T.tx.length 60) (p + 1) - 48)) 125 ((3 * k) + 2) 0) R1 := hB15.st (by decide)
          refine ep_iload_n (i := 2) dX11_readAct_105 rfl rfl ?_
          refine ep_bipush (v := 109) dX11_readAct_106 (by decide) ?_
          refine ep_icmp_ne (tgt := 125) dX11_readAct_108 (by decide) (fun c22 => ?_) (fun c22 => absurd (by rw [c12]; decide) c22)
          refine ep_iload_n (i := 2) dX11_readAct_125 rfl rfl ?_
          refine ep_bipush (v := 112) dX11_readAct_126 (by decide) ?_
          refine ep_icmp_ne (tgt := 149) dX11_readAct_128 (by decide) (fun c23 => ?_) (fun c23 => absurd (by rw [c12]; decide) c23)
          refine ep_vret dX11_readAct_149 rfl ?_
          have hv4 : ¬ z_fa ((zhr (I 116) T.tx.length 60) p) = 4 := by rw [c12]; decide
          obtain ⟨hG1, hp1, hp2⟩ := hG.nw hM hO hf hv4
          have ht : T.tt p = 116 := (hM.hr hO hp1 hp2 (tp := 60)).symm.trans c12
          rw [show z_fa (T.tt p) = 6 from by rw [ht]; decide] at hG1
          have hG2 : zwG T (p + 2) 6 2 := hG1.nx hM hO (by decide) (z_st57.2 hd14) (zdg_ne hd14)
          exact ⟨rfl, (z_set (z_set (z_set J 125 (3 * k) ((zhr (I 116) T.tx.length 60) p)) 125 ((3 * k) + 1) ((zhr (I 116) T.tx.length 60) (p + 1) - 48)) 125 ((3 * k) + 2) 0), (p + 1 + 1, nI (p + 1 + 1)), rfl, hB21, (fun q hq => by rw [z_set_nk (by omega), z_set_nk (by omega), z_set_nk (by omega)]), Or.inr ⟨(p + 1 + 1), p + 1 + 1, by omega, by omega, rfl, hG2.no hM hO (by decide) (fun g => hd17 (z_st53.1 g))⟩⟩
      · rw [zp_one_n hd14]
        show eb_P _ _ 82 [(2, .int ((zhr (I 116) T.tx.length 60) p)), (0, .ref 112), (1, .int (nI (3 * k)))] (.int 0 :: [.int (nI ((3 * k) + 1)), .ref 125]) (n, sl, kd, (zpw (z_set J 125 (3 * k) ((zhr (I 116) T.tx.length 60) p)) (p + 1, nI (p + 1))), L, R1) _
        refine ep_isN (k := ((3 * k) + 1)) dX11_readAct_82 (hF.lt (by decide)) (hF.lx (by decide)) (hF.ka (by decide) rfl) (by omega) (by decide) ?_
        refine ep_eq (σ2 := (n, sl, kd, zpw (z_set (z_set J 125 (3 * k) ((zhr (I 116) T.tx.length 60) p)) 125 ((3 * k) + 1) 0) (p + 1, nI (p + 1)), L, R1)) rfl rfl rfl (by rw [zpw_st (by decide)]) ?_
        have hB24 : zB n kd I Rf T 60 (z_set (z_set J 125 (3 * k) ((zhr (I 116) T.tx.length 60) p)) 125 ((3 * k) + 1) 0) R1 := hB13.st (by decide)
        refine ep_iload_n (i := 2) dX11_readAct_83 rfl rfl ?_
        refine ep_bipush (v := 116) dX11_readAct_84 (by decide) ?_
        refine ep_icmp_ne (tgt := 105) dX11_readAct_86 (by decide) (fun c25 => absurd c25 (fun g => g c12)) (fun c25 => ?_)
        refine ep_aload_n (i := 0) dX11_readAct_89 rfl rfl ?_
        refine ep_getR dX11_readAct_90 flX11_52 (hF.lt (by decide)) (hF.kc (by decide) rfl) (hF.pt 118 rfl) ?_
        refine ep_iload_n (i := 1) dX11_readAct_93 rfl rfl ?_
        refine ep_iconst (v := 2) dX11_readAct_94 (by decide) ?_
        refine ep_iadd dX11_readAct_95 ?_
        refine ep_topE (y := nI ((3 * k) + 2)) (nI_add _ _) ?_
        refine ep_aload_n (i := 0) dX11_readAct_96 rfl rfl ?_
        refine ep_bipush (v := 48) dX11_readAct_97 (by decide) ?_
        refine ep_bipush (v := 6) dX11_readAct_99 (by decide) ?_
        refine ep_callV (M1 := mX11_oneOf) (rest := [.int (nI ((3 * k) + 2)), .ref 125]) dX11_readAct_101 mlX11_140 mvX11_oneOf rfl (hF.lt (by decide)) (hF.kc (by decide) rfl) (Nat.le_of_ble_eq_true rfl) rfl (q_X11_oneOf (I := (z_set (z_set J 125 (3 * k) ((zhr (I 116) T.tx.length 60) p)) 125 ((3 * k) + 1) 0)) (L := L) (d + 17) hB24.P (s := (p + 1, nI (p + 1))) (show p + 1 < 1000 by omega) (a := 48) (k := 6) (by decide) z_hk6) (fun _ _ g => Or.inl (by rw [g.1])) ?_
        rintro _ _ ⟨rfl, rfl⟩
        rw [zp_one_w (nI_nm1 _ (by omega))]
        show eb_P _ _ 104 [(2, .int ((zhr (I 116) T.tx.length 60) p)), (0, .ref 112), (1, .int (nI (3 * k)))] (.int 0 :: [.int (nI ((3 * k) + 2)), .ref 125]) (n, sl, kd, (zpw (z_set (z_set J 125 (3 * k) ((zhr (I 116) T.tx.length 60) p)) 125 ((3 * k) + 1) 0) (p + 1, nI (p + 1))), L, R1) _
        refine ep_isN (k := ((3 * k) + 2)) dX11_readAct_104 (hF.lt (by decide)) (hF.lx (by decide)) (hF.ka (by decide) rfl) (by omega) (by decide) ?_
        refine ep_eq (σ2 := (n, sl, kd, zpw (z_set (z_set (z_set J 125 (3 * k) ((zhr (I 116) T.tx.length 60) p)) 125 ((3 * k) + 1) 0) 125 ((3 * k) + 2) 0) (p + 1, nI (p + 1)), L, R1)) rfl rfl rfl (by rw [zpw_st (by decide)]) ?_
        have hB26 : zB n kd I Rf T 60 (z_set (z_set (z_set J 125 (3 * k) ((zhr (I 116) T.tx.length 60) p)) 125 ((3 * k) + 1) 0) 125 ((3 * k) + 2) 0) R1 := hB24.st (by decide)
        refine ep_iload_n (i := 2) dX11_readAct_105 rfl rfl ?_
        refine ep_bipush (v := 109) dX11_readAct_106 (by decide) ?_
        refine ep_icmp_ne (tgt := 125) dX11_readAct_108 (by decide) (fun c27 => ?_) (fun c27 => absurd (by rw [c12]; decide) c27)
        refine ep_iload_n (i := 2) dX11_readAct_125 rfl rfl ?_
        refine ep_bipush (v := 112) dX11_readAct_126 (by decide) ?_
        refine ep_icmp_ne (tgt := 149) dX11_readAct_128 (by decide) (fun c28 => ?_) (fun c28 => absurd (by rw [c12]; decide) c28)
        refine ep_vret dX11_readAct_149 rfl ?_
        have hv4 : ¬ z_fa ((zhr (I 116) T.tx.length 60) p) = 4 := by rw [c12]; decide
        obtain ⟨hG1, hp1, hp2⟩ := hG.nw hM hO hf hv4
        have ht : T.tt p = 116 := (hM.hr hO hp1 hp2 (tp := 60)).symm.trans c12
        rw [show z_fa (T.tt p) = 6 from by rw [ht]; decide] at hG1
        exact ⟨rfl, (z_set (z_set (z_set J 125 (3 * k) ((zhr (I 116) T.tx.length 60) p)) 125 ((3 * k) + 1) 0) 125 ((3 * k) + 2) 0), (p + 1, nI (p + 1)), rfl, hB26, (fun q hq => by rw [z_set_nk (by omega), z_set_nk (by omega), z_set_nk (by omega)]), Or.inr ⟨(p + 1), p + 1, by omega, by omega, rfl, hG1.no hM hO (by decide) (fun g => hd14 (z_st57.1 g))⟩⟩
    · skip
      refine ep_iload_n (i := 2) dX11_readAct_17 rfl rfl ?_
      refine ep_bipush (v := 109) dX11_readAct_18 (by decide) ?_
      refine ep_icmp_eq (tgt := 50) dX11_readAct_20 (by decide) (fun c29 => ?_) (fun c29 => ?_)
      · skip
        refine ep_aload_n (i := 0) dX11_readAct_50 rfl rfl ?_
        refine ep_dup dX11_readAct_51 rfl ?_
        refine ep_getI dX11_readAct_52 flX11_114 (hF.lt (by decide)) (hF.kc (by decide) rfl) ?_
        refine ep_topE (y := nI p) zpw_13 ?_
        refine ep_iconst (v := 1) dX11_readAct_55 (by decide) ?_
        refine ep_iadd dX11_readAct_56 ?_
        refine ep_topE (y := nI (p + 1)) (nI_add _ _) ?_
        refine ep_pI dX11_readAct_57 plX11_114 (hF.lt (by decide)) (hF.lx (by decide)) (hF.kc (by decide) rfl) rfl rfl ?_
        refine ep_eq (σ2 := (n, sl, kd, zpw J (p + 1, -1), L, R1)) rfl rfl rfl (by rw [zpw_s13]) ?_
        refine ep_aload_n (i := 0) dX11_readAct_60 rfl rfl ?_
        refine ep_getR dX11_readAct_61 flX11_52 (hF.lt (by decide)) (hF.kc (by decide) rfl) (hF.pt 118 rfl) ?_
        refine ep_iload_n (i := 1) dX11_readAct_64 rfl rfl ?_
        refine ep_iload_n (i := 2) dX11_readAct_65 rfl rfl ?_
        refine ep_isN (k := (3 * k)) dX11_readAct_66 (hF.lt (by decide)) (hF.lx (by decide)) (hF.ka (by decide) rfl) (by omega) (by decide) ?_
        refine ep_eq (σ2 := (n, sl, kd, zpw (z_set J 125 (3 * k) ((zhr (I 116) T.tx.length 60) p)) (p + 1, -1), L, R1)) rfl rfl rfl (by rw [zpw_st (by decide)]) ?_
        have hB30 : zB n kd I Rf T 60 (z_set J 125 (3 * k) ((zhr (I 116) T.tx.length 60) p)) R1 := hB.st (by decide)
        refine ep_aload_n (i := 0) dX11_readAct_67 rfl rfl ?_
        refine ep_getR dX11_readAct_68 flX11_52 (hF.lt (by decide)) (hF.kc (by decide) rfl) (hF.pt 118 rfl) ?_
        refine ep_iload_n (i := 1) dX11_readAct_71 rfl rfl ?_
        refine ep_iconst (v := 1) dX11_readAct_72 (by decide) ?_
        refine ep_iadd dX11_readAct_73 ?_
        refine ep_topE (y := nI ((3 * k) + 1)) (nI_add _ _) ?_
        refine ep_aload_n (i := 0) dX11_readAct_74 rfl rfl ?_
        refine ep_bipush (v := 48) dX11_readAct_75 (by decide) ?_
        refine ep_bipush (v := 10) dX11_readAct_77 (by decide) ?_
        refine ep_callV (M1 := mX11_oneOf) (rest := [.int (nI ((3 * k) + 1)), .ref 125]) dX11_readAct_79 mlX11_140 mvX11_oneOf rfl (hF.lt (by decide)) (hF.kc (by decide) rfl) (Nat.le_of_ble_eq_true rfl) rfl (q_X11_oneOf (I := (z_set J 125 (3 * k) ((zhr (I 116) T.tx.length 60) p))) (L := L) (d + 17) hB30.P (s := (p + 1, -1)) (show p + 1 < 1000 by omega) (a := 48) (k := 10) (by decide) z_hk10) (fun _ _ g => Or.inl (by rw [g.1])) ?_
        rintro _ _ ⟨rfl, rfl⟩
        by_cases hd31 : 48 ≤ (zhr (I 116) T.tx.length 60) (p + 1) ∧ (zhr (I 116) T.tx.length 60) (p + 1) ≤ 48 + 10 - 1
        · rw [zp_one_y hd31]
          show eb_P _ _ 82 [(2, .int ((zhr (I 116) T.tx.length 60) p)), (0, .ref 112), (1, .int (nI (3 * k)))] (.int ((zhr (I 116) T.tx.length 60) (p + 1) - 48) :: [.int (nI ((3 * k) + 1)), .ref 125]) (n, sl, kd, (zpw (z_set J 125 (3 * k) ((zhr (I 116) T.tx.length 60) p)) (p + 1 + 1, -1)), L, R1) _
          refine ep_isN (k := ((3 * k) + 1)) dX11_readAct_82 (hF.lt (by decide)) (hF.lx (by decide)) (hF.ka (by decide) rfl) (by omega) (by decide) ?_
          refine ep_eq (σ2 := (n, sl, kd, zpw (z_set (z_set J 125 (3 * k) ((zhr (I 116) T.tx.length 60) p)) 125 ((3 * k) + 1) ((zhr (I 116) T.tx.length 60) (p + 1) - 48)) (p + 1 + 1, -1), L, R1)) rfl rfl rfl (by rw [zpw_st (by decide)]) ?_
          have hB32 : zB n kd I Rf T 60 (z_set (z_set J 125 (3 * k) ((zhr (I 116) T.tx.length 60) p)) 125 ((3 * k) + 1) ((zhr (I 116) T.tx.length 60) (p + 1) - 48)) R1 := hB30.st (by decide)
          refine ep_iload_n (i := 2) dX11_readAct_83 rfl rfl ?_
          refine ep_bipush (v := 116) dX11_readAct_84 (by decide) ?_
          refine ep_icmp_ne (tgt := 105) dX11_readAct_86 (by decide) (fun c33 => ?_) (fun c33 => absurd (by rw [c29]; decide) c33)
          refine ep_iload_n (i := 2) dX11_readAct_105 rfl rfl ?_
          refine ep_bipush (v := 109) dX11_readAct_106 (by decide) ?_
          refine ep_icmp_ne (tgt := 125) dX11_readAct_108 (by decide) (fun c34 => absurd c34 (fun g => g c29)) (fun c34 => ?_)
          refine ep_aload_n (i := 0) dX11_readAct_111 rfl rfl ?_
          refine ep_getR dX11_readAct_112 flX11_52 (hF.lt (by decide)) (hF.kc (by decide) rfl) (hF.pt 118 rfl) ?_
          refine ep_iload_n (i := 1) dX11_readAct_115 rfl rfl ?_
          refine ep_iconst (v := 2) dX11_readAct_116 (by decide) ?_
          refine ep_iadd dX11_readAct_117 ?_
          refine ep_topE (y := nI ((3 * k) + 2)) (nI_add _ _) ?_
          refine ep_aload_n (i := 0) dX11_readAct_118 rfl rfl ?_
          refine ep_bipush (v := 6) dX11_readAct_119 (by decide) ?_
          refine ep_callV (M1 := mX11_signedOf) (rest := [.int (nI ((3 * k) + 2)), .ref 125]) dX11_readAct_121 mlX11_150 mvX11_signedOf rfl (hF.lt (by decide)) (hF.kc (by decide) rfl) (Nat.le_of_ble_eq_true rfl) rfl (q_X11_signedOf (I := (z_set (z_set J 125 (3 * k) ((zhr (I 116) T.tx.length 60) p)) 125 ((3 * k) + 1) ((zhr (I 116) T.tx.length 60) (p + 1) - 48))) (L := L) (d + 16) hB32.P (s := (p + 1 + 1, -1)) (show p + 1 + 1 < 900 by omega) (k := 6) z_hk6) (fun _ _ g => Or.inl (by rw [g.1])) ?_
          rintro _ _ ⟨rfl, rfl⟩
          by_cases hs35 : (zhr (I 116) T.tx.length 60) (p + 1 + 1) = 45 ∨ (zhr (I 116) T.tx.length 60) (p + 1 + 1) = 43
          · by_cases hd36 : 48 ≤ (zhr (I 116) T.tx.length 60) (p + 1 + 1 + 1) ∧ (zhr (I 116) T.tx.length 60) (p + 1 + 1 + 1) ≤ 48 + 6 - 1
            · rw [zp_sgn_y hs35 hd36]
              show eb_P _ _ 124 [(2, .int ((zhr (I 116) T.tx.length 60) p)), (0, .ref 112), (1, .int (nI (3 * k)))] (.int (if (zhr (I 116) T.tx.length 60) (p + 1 + 1) = 45 then -((zhr (I 116) T.tx.length 60) (p + 1 + 1 + 1) - 48) else (zhr (I 116) T.tx.length 60) (p + 1 + 1 + 1) - 48) :: [.int (nI ((3 * k) + 2)), .ref 125]) (n, sl, kd, (zpw (z_set (z_set J 125 (3 * k) ((zhr (I 116) T.tx.length 60) p)) 125 ((3 * k) + 1) ((zhr (I 116) T.tx.length 60) (p + 1) - 48)) (p + 1 + 1 + 2, -1)), L, R1) _
              refine ep_isN (k := ((3 * k) + 2)) dX11_readAct_124 (hF.lt (by decide)) (hF.lx (by decide)) (hF.ka (by decide) rfl) (by omega) (by decide) ?_
              refine ep_eq (σ2 := (n, sl, kd, zpw (z_set (z_set (z_set J 125 (3 * k) ((zhr (I 116) T.tx.length 60) p)) 125 ((3 * k) + 1) ((zhr (I 116) T.tx.length 60) (p + 1) - 48)) 125 ((3 * k) + 2) (if (zhr (I 116) T.tx.length 60) (p + 1 + 1) = 45 then -((zhr (I 116) T.tx.length 60) (p + 1 + 1 + 1) - 48) else (zhr (I 116) T.tx.length 60) (p + 1 + 1 + 1) - 48)) (p + 1 + 1 + 2, -1), L, R1)) rfl rfl rfl (by rw [zpw_st (by decide)]) ?_
              have hB37 : zB n kd I Rf T 60 (z_set (z_set (z_set J 125 (3 * k) ((zhr (I 116) T.tx.length 60) p)) 125 ((3 * k) + 1) ((zhr (I 116) T.tx.length 60) (p + 1) - 48)) 125 ((3 * k) + 2) (if (zhr (I 116) T.tx.length 60) (p + 1 + 1) = 45 then -((zhr (I 116) T.tx.length 60) (p + 1 + 1 + 1) - 48) else (zhr (I 116) T.tx.length 60) (p + 1 + 1 + 1) - 48)) R1 := hB32.st (by decide)
              refine ep_iload_n (i := 2) dX11_readAct_125 rfl rfl ?_
              refine ep_bipush (v := 112) dX11_readAct_126 (by decide) ?_
              refine ep_icmp_ne (tgt := 149) dX11_readAct_128 (by decide) (fun c38 => ?_) (fun c38 => absurd (by rw [c29]; decide) c38)
              refine ep_vret dX11_readAct_149 rfl ?_
              have hv4 : ¬ z_fa ((zhr (I 116) T.tx.length 60) p) = 4 := by rw [c29]; decide
              obtain ⟨hG1, hp1, hp2⟩ := hG.nw hM hO hf hv4
              have ht : T.tt p = 109 := (hM.hr hO hp1 hp2 (tp := 60)).symm.trans c29
              rw [show z_fa (T.tt p) = 7 from by rw [ht]; decide] at hG1
              have hG2 : zwG T (p + 2) 7 2 := hG1.nx hM hO (by decide) (z_st57.2 hd31) (zdg_ne hd31)
              have hG3 : zwG T (p + 3) 7 3 := hG2.nx hM hO (by decide) (z_st43.2 hs35) (zsi_ne hs35)
              have hG4 : zwG T (p + 4) 7 4 := hG3.nx hM hO (by decide) (z_st53.2 hd36) (zd6_ne hd36)
              have hge := hG4.1; have hgf := hG4.2.1
              refine ⟨rfl, (z_set (z_set (z_set J 125 (3 * k) ((zhr (I 116) T.tx.length 60) p)) 125 ((3 * k) + 1) ((zhr (I 116) T.tx.length 60) (p + 1) - 48)) 125 ((3 * k) + 2) (if (zhr (I 116) T.tx.length 60) (p + 1 + 1) = 45 then -((zhr (I 116) T.tx.length 60) (p + 1 + 1 + 1) - 48) else (zhr (I 116) T.tx.length 60) (p + 1 + 1 + 1) - 48)), (p + 1 + 1 + 2, -1), rfl, hB37, (fun q hq => by rw [z_set_nk (by omega), z_set_nk (by omega), z_set_nk (by omega)]), Or.inl ⟨?_, ?_, ?_⟩⟩
              · rw [show z_fa (T.tt p) = 7 from by rw [ht]; decide]; rfl
              · rw [show z_fa (T.tt p) = 7 from by rw [ht]; decide]; exact hG4
              · exact ⟨by rw [z_set_nk (by omega), z_set_nk (by omega), z_set_at, hM.hr hO hp1 hp2], by rw [z_set_nk (by omega), z_set_at, hM.hr hO (by omega) (by omega)], zac_dg hM hO (by omega) (by omega) hd31, fun g => absurd g (by rw [ht]; decide), fun _ => by rw [z_set_at, hM.hr hO (by omega) (by omega), hM.hr hO (by omega) (by omega)]; rfl, by rw [ht]; decide⟩
            · obtain ⟨va, hva⟩ : ∃ z, z = (zp_sgn (zhr (I 116) T.tx.length 60) 6 (p + 1 + 1, -1)).1 := ⟨_, rfl⟩
              rw [← hva, zp_sgn_d hs35 hd36]
              show eb_P _ _ 124 [(2, .int ((zhr (I 116) T.tx.length 60) p)), (0, .ref 112), (1, .int (nI (3 * k)))] (.int va :: [.int (nI ((3 * k) + 2)), .ref 125]) (n, sl, kd, (zpw (z_set (z_set J 125 (3 * k) ((zhr (I 116) T.tx.length 60) p)) 125 ((3 * k) + 1) ((zhr (I 116) T.tx.length 60) (p + 1) - 48)) (p + 1 + 1 + 1, nI (p + 1 + 1 + 1))), L, R1) _
              refine ep_isN (k := ((3 * k) + 2)) dX11_readAct_124 (hF.lt (by decide)) (hF.lx (by decide)) (hF.ka (by decide) rfl) (by omega) (by decide) ?_
              refine ep_eq (σ2 := (n, sl, kd, zpw (z_set (z_set (z_set J 125 (3 * k) ((zhr (I 116) T.tx.length 60) p)) 125 ((3 * k) + 1) ((zhr (I 116) T.tx.length 60) (p + 1) - 48)) 125 ((3 * k) + 2) va) (p + 1 + 1 + 1, nI (p + 1 + 1 + 1)), L, R1)) rfl rfl rfl (by rw [zpw_st (by decide)]) ?_
              have hB39 : zB n kd I Rf T 60 (z_set (z_set (z_set J 125 (3 * k) ((zhr (I 116) T.tx.length 60) p)) 125 ((3 * k) + 1) ((zhr (I 116) T.tx.length 60) (p + 1) - 48)) 125 ((3 * k) + 2) va) R1 := hB32.st (by decide)
              refine ep_iload_n (i := 2) dX11_readAct_125 rfl rfl ?_
              refine ep_bipush (v := 112) dX11_readAct_126 (by decide) ?_
              refine ep_icmp_ne (tgt := 149) dX11_readAct_128 (by decide) (fun c40 => ?_) (fun c40 => absurd (by rw [c29]; decide) c40)
              refine ep_vret dX11_readAct_149 rfl ?_
              have hv4 : ¬ z_fa ((zhr (I 116) T.tx.length 60) p) = 4 := by rw [c29]; decide
              obtain ⟨hG1, hp1, hp2⟩ := hG.nw hM hO hf hv4
              have ht : T.tt p = 109 := (hM.hr hO hp1 hp2 (tp := 60)).symm.trans c29
              rw [show z_fa (T.tt p) = 7 from by rw [ht]; decide] at hG1
              have hG2 : zwG T (p + 2) 7 2 := hG1.nx hM hO (by decide) (z_st57.2 hd31) (zdg_ne hd31)
              have hG3 : zwG T (p + 3) 7 3 := hG2.nx hM hO (by decide) (z_st43.2 hs35) (zsi_ne hs35)
              exact ⟨rfl, (z_set (z_set (z_set J 125 (3 * k) ((zhr (I 116) T.tx.length 60) p)) 125 ((3 * k) + 1) ((zhr (I 116) T.tx.length 60) (p + 1) - 48)) 125 ((3 * k) + 2) va), (p + 1 + 1 + 1, nI (p + 1 + 1 + 1)), rfl, hB39, (fun q hq => by rw [z_set_nk (by omega), z_set_nk (by omega), z_set_nk (by omega)]), Or.inr ⟨(p + 1 + 1 + 1), p + 1 + 1 + 1, by omega, by omega, rfl, hG3.no hM hO (by decide) (fun g => hd36 (z_st53.1 g))⟩⟩
          · obtain ⟨va, hva⟩ : ∃ z, z = (zp_sgn (zhr (I 116) T.tx.length 60) 6 (p + 1 + 1, -1)).1 := ⟨_, rfl⟩
            rw [← hva, zp_sgn_n (by omega) hs35]
            show eb_P _ _ 124 [(2, .int ((zhr (I 116) T.tx.length 60) p)), (0, .ref 112), (1, .int (nI (3 * k)))] (.int va :: [.int (nI ((3 * k) + 2)), .ref 125]) (n, sl, kd, (zpw (z_set (z_set J 125 (3 * k) ((zhr (I 116) T.tx.length 60) p)) 125 ((3 * k) + 1) ((zhr (I 116) T.tx.length 60) (p + 1) - 48)) (p + 1 + 1 + 1, nI (p + 1 + 1))), L, R1) _
            refine ep_isN (k := ((3 * k) + 2)) dX11_readAct_124 (hF.lt (by decide)) (hF.lx (by decide)) (hF.ka (by decide) rfl) (by omega) (by decide) ?_
            refine ep_eq (σ2 := (n, sl, kd, zpw (z_set (z_set (z_set J 125 (3 * k) ((zhr (I 116) T.tx.length 60) p)) 125 ((3 * k) + 1) ((zhr (I 116) T.tx.length 60) (p + 1) - 48)) 125 ((3 * k) + 2) va) (p + 1 + 1 + 1, nI (p + 1 + 1)), L, R1)) rfl rfl rfl (by rw [zpw_st (by decide)]) ?_
            have hB41 : zB n kd I Rf T 60 (z_set (z_set (z_set J 125 (3 * k) ((zhr (I 116) T.tx.length 60) p)) 125 ((3 * k) + 1) ((zhr (I 116) T.tx.length 60) (p + 1) - 48)) 125 ((3 * k) + 2) va) R1 := hB32.st (by decide)
            refine ep_iload_n (i := 2) dX11_readAct_125 rfl rfl ?_
            refine ep_bipush (v := 112) dX11_readAct_126 (by decide) ?_
            refine ep_icmp_ne (tgt := 149) dX11_readAct_128 (by decide) (fun c42 => ?_) (fun c42 => absurd (by rw [c29]; decide) c42)
            refine ep_vret dX11_readAct_149 rfl ?_
            have hv4 : ¬ z_fa ((zhr (I 116) T.tx.length 60) p) = 4 := by rw [c29]; decide
            obtain ⟨hG1, hp1, hp2⟩ := hG.nw hM hO hf hv4
            have ht : T.tt p = 109 := (hM.hr hO hp1 hp2 (tp := 60)).symm.trans c29
            rw [show z_fa (T.tt p) = 7 from by rw [ht]; decide] at hG1
            have hG2 : zwG T (p + 2) 7 2 := hG1.nx hM hO (by decide) (z_st57.2 hd31) (zdg_ne hd31)
            exact ⟨rfl, (z_set (z_set (z_set J 125 (3 * k) ((zhr (I 116) T.tx.length 60) p)) 125 ((3 * k) + 1) ((zhr (I 116) T.tx.length 60) (p + 1) - 48)) 125 ((3 * k) + 2) va), (p + 1 + 1 + 1, nI (p + 1 + 1)), rfl, hB41, (fun q hq => by rw [z_set_nk (by omega), z_set_nk (by omega), z_set_nk (by omega)]), Or.inr ⟨(p + 1 + 1), p + 1 + 1 + 1, by omega, by omega, rfl, hG2.no hM hO (by decide) (fun g => hs35 (z_st43.1 g))⟩⟩
        · rw [zp_one_n hd31]
          show eb_P _ _ 82 [(2, .int ((zhr (I 116) T.tx.length 60) p)), (0, .ref 112), (1, .int (nI (3 * k)))] (.int 0 :: [.int (nI ((3 * k) + 1)), .ref 125]) (n, sl, kd, (zpw (z_set J 125 (3 * k) ((zhr (I 116) T.tx.length 60) p)) (p + 1, nI (p + 1))), L, R1) _
          refine ep_isN (k := ((3 * k) + 1)) dX11_readAct_82 (hF.lt (by decide)) (hF.lx (by decide)) (hF.ka (by decide) rfl) (by omega) (by decide) ?_
          refine ep_eq (σ2 := (n, sl, kd, zpw (z_set (z_set J 125 (3 * k) ((zhr (I 116) T.tx.length 60) p)) 125 ((3 * k) + 1) 0) (p + 1, nI (p + 1)), L, R1)) rfl rfl rfl (by rw [zpw_st (by decide)]) ?_
          have hB43 : zB n kd I Rf T 60 (z_set (z_set J 125 (3 * k) ((zhr (I 116) T.tx.length 60) p)) 125 ((3 * k) + 1) 0) R1 := hB30.st (by decide)
          refine ep_iload_n (i := 2) dX11_readAct_83 rfl rfl ?_
          refine ep_bipush (v := 116) dX11_readAct_84 (by decide) ?_
          refine ep_icmp_ne (tgt := 105) dX11_readAct_86 (by decide) (fun c44 => ?_) (fun c44 => absurd (by rw [c29]; decide) c44)
          refine ep_iload_n (i := 2) dX11_readAct_105 rfl rfl ?_
          refine ep_bipush (v := 109) dX11_readAct_106 (by decide) ?_
          refine ep_icmp_ne (tgt := 125) dX11_readAct_108 (by decide) (fun c45 => absurd c45 (fun g => g c29)) (fun c45 => ?_)
          refine ep_aload_n (i := 0) dX11_readAct_111 rfl rfl ?_
          refine ep_getR dX11_readAct_112 flX11_52 (hF.lt (by decide)) (hF.kc (by decide) rfl) (hF.pt 118 rfl) ?_
          refine ep_iload_n (i := 1) dX11_readAct_115 rfl rfl ?_
          refine ep_iconst (v := 2) dX11_readAct_116 (by decide) ?_
          refine ep_iadd dX11_readAct_117 ?_
          refine ep_topE (y := nI ((3 * k) + 2)) (nI_add _ _) ?_
          refine ep_aload_n (i := 0) dX11_readAct_118 rfl rfl ?_
          refine ep_bipush (v := 6) dX11_readAct_119 (by decide) ?_
          refine ep_callV (M1 := mX11_signedOf) (rest := [.int (nI ((3 * k) + 2)), .ref 125]) dX11_readAct_121 mlX11_150 mvX11_signedOf rfl (hF.lt (by decide)) (hF.kc (by decide) rfl) (Nat.le_of_ble_eq_true rfl) rfl (q_X11_signedOf (I := (z_set (z_set J 125 (3 * k) ((zhr (I 116) T.tx.length 60) p)) 125 ((3 * k) + 1) 0)) (L := L) (d + 16) hB43.P (s := (p + 1, nI (p + 1))) (show p + 1 < 900 by omega) (k := 6) z_hk6) (fun _ _ g => Or.inl (by rw [g.1])) ?_
          rintro _ _ ⟨rfl, rfl⟩
          obtain ⟨va, hva⟩ : ∃ z, z = (zp_sgn (zhr (I 116) T.tx.length 60) 6 (p + 1, nI (p + 1))).1 := ⟨_, rfl⟩
          rw [← hva, zp_sgn_w (nI_nm1 _ (by omega))]
          show eb_P _ _ 124 [(2, .int ((zhr (I 116) T.tx.length 60) p)), (0, .ref 112), (1, .int (nI (3 * k)))] (.int va :: [.int (nI ((3 * k) + 2)), .ref 125]) (n, sl, kd, (zpw (z_set (z_set J 125 (3 * k) ((zhr (I 116) T.tx.length 60) p)) 125 ((3 * k) + 1) 0) (p + 1 + 1, nI (p + 1))), L, R1) _
          refine ep_isN (k := ((3 * k) + 2)) dX11_readAct_124 (hF.lt (by decide)) (hF.lx (by decide)) (hF.ka (by decide) rfl) (by omega) (by decide) ?_
          refine ep_eq (σ2 := (n, sl, kd, zpw (z_set (z_set (z_set J 125 (3 * k) ((zhr (I 116) T.tx.length 60) p)) 125 ((3 * k) + 1) 0) 125 ((3 * k) + 2) va) (p + 1 + 1, nI (p + 1)), L, R1)) rfl rfl rfl (by rw [zpw_st (by decide)]) ?_
          have hB46 : zB n kd I Rf T 60 (z_set (z_set (z_set J 125 (3 * k) ((zhr (I 116) T.tx.length 60) p)) 125 ((3 * k) + 1) 0) 125 ((3 * k) + 2) va) R1 := hB43.st (by decide)
          refine ep_iload_n (i := 2) dX11_readAct_125 rfl rfl ?_
          refine ep_bipush (v := 112) dX11_readAct_126 (by decide) ?_
          refine ep_icmp_ne (tgt := 149) dX11_readAct_128 (by decide) (fun c47 => ?_) (fun c47 => absurd (by rw [c29]; decide) c47)
          refine ep_vret dX11_readAct_149 rfl ?_
          have hv4 : ¬ z_fa ((zhr (I 116) T.tx.length 60) p) = 4 := by rw [c29]; decide
          obtain ⟨hG1, hp1, hp2⟩ := hG.nw hM hO hf hv4
          have ht : T.tt p = 109 := (hM.hr hO hp1 hp2 (tp := 60)).symm.trans c29
          rw [show z_fa (T.tt p) = 7 from by rw [ht]; decide] at hG1
          exact ⟨rfl, (z_set (z_set (z_set J 125 (3 * k) ((zhr (I 116) T.tx.length 60) p)) 125 ((3 * k) + 1) 0) 125 ((3 * k) + 2) va), (p + 1 + 1, nI (p + 1)), rfl, hB46, (fun q hq => by rw [z_set_nk (by omega), z_set_nk (by omega), z_set_nk (by omega)]), Or.inr ⟨(p + 1), p + 1 + 1, by omega, by omega, rfl, hG1.no hM hO (by decide) (fun g => hd31 (z_st57.1 g))⟩⟩
      · skip
        refine ep_iload_n (i := 2) dX11_readAct_23 rfl rfl ?_
        refine ep_bipush (v := 101) dX11_readAct_24 (by decide) ?_
        refine ep_icmp_eq (tgt := 50) dX11_readAct_26 (by decide) (fun c48 => ?_) (fun c48 => ?_)
        · skip
          refine ep_aload_n (i := 0) dX11_readAct_50 rfl rfl ?_
          refine ep_dup dX11_readAct_51 rfl ?_
          refine ep_getI dX11_readAct_52 flX11_114 (hF.lt (by decide)) (hF.kc (by decide) rfl) ?_
          refine ep_topE (y := nI p) zpw_13 ?_
          refine ep_iconst (v := 1) dX11_readAct_55 (by decide) ?_
          refine ep_iadd dX11_readAct_56 ?_
          refine ep_topE (y := nI (p + 1)) (nI_add _ _) ?_
          refine ep_pI dX11_readAct_57 plX11_114 (hF.lt (by decide)) (hF.lx (by decide)) (hF.kc (by decide) rfl) rfl rfl ?_
          refine ep_eq (σ2 := (n, sl, kd, zpw J (p + 1, -1), L, R1)) rfl rfl rfl (by rw [zpw_s13]) ?_
          refine ep_aload_n (i := 0) dX11_readAct_60 rfl rfl ?_
          refine ep_getR dX11_readAct_61 flX11_52 (hF.lt (by decide)) (hF.kc (by decide) rfl) (hF.pt 118 rfl) ?_
          refine ep_iload_n (i := 1) dX11_readAct_64 rfl rfl ?_
          refine ep_iload_n (i := 2) dX11_readAct_65 rfl rfl ?_
          refine ep_isN (k := (3 * k)) dX11_readAct_66 (hF.lt (by decide)) (hF.lx (by decide)) (hF.ka (by decide) rfl) (by omega) (by decide) ?_
          refine ep_eq (σ2 := (n, sl, kd, zpw (z_set J 125 (3 * k) ((zhr (I 116) T.tx.length 60) p)) (p + 1, -1), L, R1)) rfl rfl rfl (by rw [zpw_st (by decide)]) ?_
          have hB49 : zB n kd I Rf T 60 (z_set J 125 (3 * k) ((zhr (I 116) T.tx.length 60) p)) R1 := hB.st (by decide)
          refine ep_aload_n (i := 0) dX11_readAct_67 rfl rfl ?_
          refine ep_getR dX11_readAct_68 flX11_52 (hF.lt (by decide)) (hF.kc (by decide) rfl) (hF.pt 118 rfl) ?_
          refine ep_iload_n (i := 1) dX11_readAct_71 rfl rfl ?_
          refine ep_iconst (v := 1) dX11_readAct_72 (by decide) ?_
          refine ep_iadd dX11_readAct_73 ?_
          refine ep_topE (y := nI ((3 * k) + 1)) (nI_add _ _) ?_
          refine ep_aload_n (i := 0) dX11_readAct_74 rfl rfl ?_
          refine ep_bipush (v := 48) dX11_readAct_75 (by decide) ?_
          refine ep_bipush (v := 10) dX11_readAct_77 (by decide) ?_
          refine ep_callV (M1 := mX11_oneOf) (rest := [.int (nI ((3 * k) + 1)), .ref 125]) dX11_readAct_79 mlX11_140 mvX11_oneOf rfl (hF.lt (by decide)) (hF.kc (by decide) rfl) (Nat.le_of_ble_eq_true rfl) rfl (q_X11_oneOf (I := (z_set J 125 (3 * k) ((zhr (I 116) T.tx.length 60) p))) (L := L) (d + 17) hB49.P (s := (p + 1, -1)) (show p + 1 < 1000 by omega) (a := 48) (k := 10) (by decide) z_hk10) (fun _ _ g => Or.inl (by rw [g.1])) ?_
          rintro _ _ ⟨rfl, rfl⟩
          by_cases hd50 : 48 ≤ (zhr (I 116) T.tx.length 60) (p + 1) ∧ (zhr (I 116) T.tx.length 60) (p + 1) ≤ 48 + 10 - 1
          · rw [zp_one_y hd50]
            show eb_P _ _ 82 [(2, .int ((zhr (I 116) T.tx.length 60) p)), (0, .ref 112), (1, .int (nI (3 * k)))] (.int ((zhr (I 116) T.tx.length 60) (p + 1) - 48) :: [.int (nI ((3 * k) + 1)), .ref 125]) (n, sl, kd, (zpw (z_set J 125 (3 * k) ((zhr (I 116) T.tx.length 60) p)) (p + 1 + 1, -1)), L, R1) _
            refine ep_isN (k := ((3 * k) + 1)) dX11_readAct_82 (hF.lt (by decide)) (hF.lx (by decide)) (hF.ka (by decide) rfl) (by omega) (by decide) ?_
            refine ep_eq (σ2 := (n, sl, kd, zpw (z_set (z_set J 125 (3 * k) ((zhr (I 116) T.tx.length 60) p)) 125 ((3 * k) + 1) ((zhr (I 116) T.tx.length 60) (p + 1) - 48)) (p + 1 + 1, -1), L, R1)) rfl rfl rfl (by rw [zpw_st (by decide)]) ?_
            have hB51 : zB n kd I Rf T 60 (z_set (z_set J 125 (3 * k) ((zhr (I 116) T.tx.length 60) p)) 125 ((3 * k) + 1) ((zhr (I 116) T.tx.length 60) (p + 1) - 48)) R1 := hB49.st (by decide)
            refine ep_iload_n (i := 2) dX11_readAct_83 rfl rfl ?_
            refine ep_bipush (v := 116) dX11_readAct_84 (by decide) ?_
            refine ep_icmp_ne (tgt := 105) dX11_readAct_86 (by decide) (fun c52 => ?_) (fun c52 => absurd (by rw [c48]; decide) c52)
            refine ep_iload_n (i := 2) dX11_readAct_105 rfl rfl ?_
            refine ep_bipush (v := 109) dX11_readAct_106 (by decide) ?_
            refine ep_icmp_ne (tgt := 125) dX11_readAct_108 (by decide) (fun c53 => ?_) (fun c53 => absurd (by rw [c48]; decide) c53)
            refine ep_iload_n (i := 2) dX11_readAct_125 rfl rfl ?_
            refine ep_bipush (v := 112) dX11_readAct_126 (by decide) ?_
            refine ep_icmp_ne (tgt := 149) dX11_readAct_128 (by decide) (fun c54 => ?_) (fun c54 => absurd (by rw [c48]; decide) c54)
            refine ep_vret dX11_readAct_149 rfl ?_
            have hv4 : ¬ z_fa ((zhr (I 116) T.tx.length 60) p) = 4 := by rw [c48]; decide
            obtain ⟨hG1, hp1, hp2⟩ := hG.nw hM hO hf hv4
            have ht : T.tt p = 101 := (hM.hr hO hp1 hp2 (tp := 60)).symm.trans c48
            rw [show z_fa (T.tt p) = 8 from by rw [ht]; decide] at hG1
            have hG2 : zwG T (p + 2) 8 2 := hG1.nx hM hO (by decide) (z_st57.2 hd50) (zdg_ne hd50)
            have hge := hG2.1; have hgf := hG2.2.1
            refine ⟨rfl, (z_set (z_set J 125 (3 * k) ((zhr (I 116) T.tx.length 60) p)) 125 ((3 * k) + 1) ((zhr (I 116) T.tx.length 60) (p + 1) - 48)), (p + 1 + 1, -1), rfl, hB51, (fun q hq => by rw [z_set_nk (by omega), z_set_nk (by omega)]), Or.inl ⟨?_, ?_, ?_⟩⟩
            · rw [show z_fa (T.tt p) = 8 from by rw [ht]; decide]; rfl
            · rw [show z_fa (T.tt p) = 8 from by rw [ht]; decide]; exact hG2
            · exact ⟨by rw [z_set_nk (by omega), z_set_at, hM.hr hO hp1 hp2], by rw [z_set_at, hM.hr hO (by omega) (by omega)], zac_dg hM hO (by omega) (by omega) hd50, fun g => absurd g (by rw [ht]; decide), fun g => absurd g (by rw [ht]; decide), by rw [ht]; decide⟩
          · rw [zp_one_n hd50]
            show eb_P _ _ 82 [(2, .int ((zhr (I 116) T.tx.length 60) p)), (0, .ref 112), (1, .int (nI (3 * k)))] (.int 0 :: [.int (nI ((3 * k) + 1)), .ref 125]) (n, sl, kd, (zpw (z_set J 125 (3 * k) ((zhr (I 116) T.tx.length 60) p)) (p + 1, nI (p + 1))), L, R1) _
            refine ep_isN (k := ((3 * k) + 1)) dX11_readAct_82 (hF.lt (by decide)) (hF.lx (by decide)) (hF.ka (by decide) rfl) (by omega) (by decide) ?_
            refine ep_eq (σ2 := (n, sl, kd, zpw (z_set (z_set J 125 (3 * k) ((zhr (I 116) T.tx.length 60) p)) 125 ((3 * k) + 1) 0) (p + 1, nI (p + 1)), L, R1)) rfl rfl rfl (by rw [zpw_st (by decide)]) ?_
            have hB55 : zB n kd I Rf T 60 (z_set (z_set J 125 (3 * k) ((zhr (I 116) T.tx.length 60) p)) 125 ((3 * k) + 1) 0) R1 := hB49.st (by decide)
            refine ep_iload_n (i := 2) dX11_readAct_83 rfl rfl ?_
            refine ep_bipush (v := 116) dX11_readAct_84 (by decide) ?_
            refine ep_icmp_ne (tgt := 105) dX11_readAct_86 (by decide) (fun c56 => ?_) (fun c56 => absurd (by rw [c48]; decide) c56)
            refine ep_iload_n (i := 2) dX11_readAct_105 rfl rfl ?_
            refine ep_bipush (v := 109) dX11_readAct_106 (by decide) ?_
            refine ep_icmp_ne (tgt := 125) dX11_readAct_108 (by decide) (fun c57 => ?_) (fun c57 => absurd (by rw [c48]; decide) c57)
            refine ep_iload_n (i := 2) dX11_readAct_125 rfl rfl ?_
            refine ep_bipush (v := 112) dX11_readAct_126 (by decide) ?_
            refine ep_icmp_ne (tgt := 149) dX11_readAct_128 (by decide) (fun c58 => ?_) (fun c58 => absurd (by rw [c48]; decide) c58)
            refine ep_vret dX11_readAct_149 rfl ?_
            have hv4 : ¬ z_fa ((zhr (I 116) T.tx.length 60) p) = 4 := by rw [c48]; decide
            obtain ⟨hG1, hp1, hp2⟩ := hG.nw hM hO hf hv4
            have ht : T.tt p = 101 := (hM.hr hO hp1 hp2 (tp := 60)).symm.trans c48
            rw [show z_fa (T.tt p) = 8 from by rw [ht]; decide] at hG1
            exact ⟨rfl, (z_set (z_set J 125 (3 * k) ((zhr (I 116) T.tx.length 60) p)) 125 ((3 * k) + 1) 0), (p + 1, nI (p + 1)), rfl, hB55, (fun q hq => by rw [z_set_nk (by omega), z_set_nk (by omega)]), Or.inr ⟨(p + 1), p + 1, by omega, by omega, rfl, hG1.no hM hO (by decide) (fun g => hd50 (z_st57.1 g))⟩⟩
        · skip
          refine ep_iload_n (i := 2) dX11_readAct_29 rfl rfl ?_
          refine ep_bipush (v := 112) dX11_readAct_30 (by decide) ?_
          refine ep_icmp_eq (tgt := 50) dX11_readAct_32 (by decide) (fun c59 => ?_) (fun c59 => ?_)
          · skip
            refine ep_aload_n (i := 0) dX11_readAct_50 rfl rfl ?_
            refine ep_dup dX11_readAct_51 rfl ?_
            refine ep_getI dX11_readAct_52 flX11_114 (hF.lt (by decide)) (hF.kc (by decide) rfl) ?_
            refine ep_topE (y := nI p) zpw_13 ?_
            refine ep_iconst (v := 1) dX11_readAct_55 (by decide) ?_
            refine ep_iadd dX11_readAct_56 ?_
            refine ep_topE (y := nI (p + 1)) (nI_add _ _) ?_
            refine ep_pI dX11_readAct_57 plX11_114 (hF.lt (by decide)) (hF.lx (by decide)) (hF.kc (by decide) rfl) rfl rfl ?_
            refine ep_eq (σ2 := (n, sl, kd, zpw J (p + 1, -1), L, R1)) rfl rfl rfl (by rw [zpw_s13]) ?_
            refine ep_aload_n (i := 0) dX11_readAct_60 rfl rfl ?_
            refine ep_getR dX11_readAct_61 flX11_52 (hF.lt (by decide)) (hF.kc (by decide) rfl) (hF.pt 118 rfl) ?_
            refine ep_iload_n (i := 1) dX11_readAct_64 rfl rfl ?_
            refine ep_iload_n (i := 2) dX11_readAct_65 rfl rfl ?_
            refine ep_isN (k := (3 * k)) dX11_readAct_66 (hF.lt (by decide)) (hF.lx (by decide)) (hF.ka (by decide) rfl) (by omega) (by decide) ?_
            refine ep_eq (σ2 := (n, sl, kd, zpw (z_set J 125 (3 * k) ((zhr (I 116) T.tx.length 60) p)) (p + 1, -1), L, R1)) rfl rfl rfl (by rw [zpw_st (by decide)]) ?_
            have hB60 : zB n kd I Rf T 60 (z_set J 125 (3 * k) ((zhr (I 116) T.tx.length 60) p)) R1 := hB.st (by decide)
            refine ep_aload_n (i := 0) dX11_readAct_67 rfl rfl ?_
            refine ep_getR dX11_readAct_68 flX11_52 (hF.lt (by decide)) (hF.kc (by decide) rfl) (hF.pt 118 rfl) ?_
            refine ep_iload_n (i := 1) dX11_readAct_71 rfl rfl ?_
            refine ep_iconst (v := 1) dX11_readAct_72 (by decide) ?_
            refine ep_iadd dX11_readAct_73 ?_
            refine ep_topE (y := nI ((3 * k) + 1)) (nI_add _ _) ?_
            refine ep_aload_n (i := 0) dX11_readAct_74 rfl rfl ?_
            refine ep_bipush (v := 48) dX11_readAct_75 (by decide) ?_
            refine ep_bipush (v := 10) dX11_readAct_77 (by decide) ?_
            refine ep_callV (M1 := mX11_oneOf) (rest := [.int (nI ((3 * k) + 1)), .ref 125]) dX11_readAct_79 mlX11_140 mvX11_oneOf rfl (hF.lt (by decide)) (hF.kc (by decide) rfl) (Nat.le_of_ble_eq_true rfl) rfl (q_X11_oneOf (I := (z_set J 125 (3 * k) ((zhr (I 116) T.tx.length 60) p))) (L := L) (d + 17) hB60.P (s := (p + 1, -1)) (show p + 1 < 1000 by omega) (a := 48) (k := 10) (by decide) z_hk10) (fun _ _ g => Or.inl (by rw [g.1])) ?_
            rintro _ _ ⟨rfl, rfl⟩
            by_cases hd61 : 48 ≤ (zhr (I 116) T.tx.length 60) (p + 1) ∧ (zhr (I 116) T.tx.length 60) (p + 1) ≤ 48 + 10 - 1
            · rw [zp_one_y hd61]
              show eb_P _ _ 82 [(2, .int ((zhr (I 116) T.tx.length 60) p)), (0, .ref 112), (1, .int (nI (3 * k)))] (.int ((zhr (I 116) T.tx.length 60) (p + 1) - 48) :: [.int (nI ((3 * k) + 1)), .ref 125]) (n, sl, kd, (zpw (z_set J 125 (3 * k) ((zhr (I 116) T.tx.length 60) p)) (p + 1 + 1, -1)), L, R1) _
              refine ep_isN (k := ((3 * k) + 1)) dX11_readAct_82 (hF.lt (by decide)) (hF.lx (by decide)) (hF.ka (by decide) rfl) (by omega) (by decide) ?_
              refine ep_eq (σ2 := (n, sl, kd, zpw (z_set (z_set J 125 (3 * k) ((zhr (I 116) T.tx.length 60) p)) 125 ((3 * k) + 1) ((zhr (I 116) T.tx.length 60) (p + 1) - 48)) (p + 1 + 1, -1), L, R1)) rfl rfl rfl (by rw [zpw_st (by decide)]) ?_
              have hB62 : zB n kd I Rf T 60 (z_set (z_set J 125 (3 * k) ((zhr (I 116) T.tx.length 60) p)) 125 ((3 * k) + 1) ((zhr (I 116) T.tx.length 60) (p + 1) - 48)) R1 := hB60.st (by decide)
              refine ep_iload_n (i := 2) dX11_readAct_83 rfl rfl ?_
              refine ep_bipush (v := 116) dX11_readAct_84 (by decide) ?_
              refine ep_icmp_ne (tgt := 105) dX11_readAct_86 (by decide) (fun c63 => ?_) (fun c63 => absurd (by rw [c59]; decide) c63)
              refine ep_iload_n (i := 2) dX11_readAct_105 rfl rfl ?_
              refine ep_bipush (v := 109) dX11_readAct_106 (by decide) ?_
              refine ep_icmp_ne (tgt := 125) dX11_readAct_108 (by decide) (fun c64 => ?_) (fun c64 => absurd (by rw [c59]; decide) c64)
              refine ep_iload_n (i := 2) dX11_readAct_125 rfl rfl ?_
              refine ep_bipush (v := 112) dX11_readAct_126 (by decide) ?_
              refine ep_icmp_ne (tgt := 149) dX11_readAct_128 (by decide) (fun c65 => absurd c65 (fun g => g c59)) (fun c65 => ?_)
              refine ep_aload_n (i := 0) dX11_readAct_131 rfl rfl ?_
              refine ep_getR dX11_readAct_132 flX11_52 (hF.lt (by decide)) (hF.kc (by decide) rfl) (hF.pt 118 rfl) ?_
              refine ep_iload_n (i := 1) dX11_readAct_135 rfl rfl ?_
              refine ep_iconst (v := 2) dX11_readAct_136 (by decide) ?_
              refine ep_iadd dX11_readAct_137 ?_
              refine ep_topE (y := nI ((3 * k) + 2)) (nI_add _ _) ?_
              refine ep_aload_n (i := 0) dX11_readAct_138 rfl rfl ?_
              refine ep_bipush (v := 49) dX11_readAct_139 (by decide) ?_
              refine ep_bipush (v := 9) dX11_readAct_141 (by decide) ?_
              refine ep_callV (M1 := mX11_oneOf) (rest := [.int (nI ((3 * k) + 2)), .ref 125]) dX11_readAct_143 mlX11_140 mvX11_oneOf rfl (hF.lt (by decide)) (hF.kc (by decide) rfl) (Nat.le_of_ble_eq_true rfl) rfl (q_X11_oneOf (I := (z_set (z_set J 125 (3 * k) ((zhr (I 116) T.tx.length 60) p)) 125 ((3 * k) + 1) ((zhr (I 116) T.tx.length 60) (p + 1) - 48))) (L := L) (d + 17) hB62.P (s := (p + 1 + 1, -1)) (show p + 1 + 1 < 1000 by omega) (a := 49) (k := 9) (by decide) z_hk9) (fun _ _ g => Or.inl (by rw [g.1])) ?_
              rintro _ _ ⟨rfl, rfl⟩
              by_cases hd66 : 49 ≤ (zhr (I 116) T.tx.length 60) (p + 1 + 1) ∧ (zhr (I 116) T.tx.length 60) (p + 1 + 1) ≤ 49 + 9 - 1
              · rw [zp_one_y hd66]
                show eb_P _ _ 146 [(2, .int ((zhr (I 116) T.tx.length 60) p)), (0, .ref 112), (1, .int (nI (3 * k)))] (.int ((zhr (I 116) T.tx.length 60) (p + 1 + 1) - 49) :: [.int (nI ((3 * k) + 2)), .ref 125]) (n, sl, kd, (zpw (z_set (z_set J 125 (3 * k) ((zhr (I 116) T.tx.length 60) p)) 125 ((3 * k) + 1) ((zhr (I 116) T.tx.length 60) (p + 1) - 48)) (p + 1 + 1 + 1, -1)), L, R1) _
                refine ep_iconst (v := 1) dX11_readAct_146 (by decide) ?_
                refine ep_iadd dX11_readAct_147 ?_
                refine ep_isN (k := ((3 * k) + 2)) dX11_readAct_148 (hF.lt (by decide)) (hF.lx (by decide)) (hF.ka (by decide) rfl) (by omega) (by decide) ?_
                refine ep_eq (σ2 := (n, sl, kd, zpw (z_set (z_set (z_set J 125 (3 * k) ((zhr (I 116) T.tx.length 60) p)) 125 ((3 * k) + 1) ((zhr (I 116) T.tx.length 60) (p + 1) - 48)) 125 ((3 * k) + 2) (((zhr (I 116) T.tx.length 60) (p + 1 + 1) - 49) + 1)) (p + 1 + 1 + 1, -1), L, R1)) rfl rfl rfl (by rw [zpw_st (by decide)]) ?_
                have hB67 : zB n kd I Rf T 60 (z_set (z_set (z_set J 125 (3 * k) ((zhr (I 116) T.tx.length 60) p)) 125 ((3 * k) + 1) ((zhr (I 116) T.tx.length 60) (p + 1) - 48)) 125 ((3 * k) + 2) (((zhr (I 116) T.tx.length 60) (p + 1 + 1) - 49) + 1)) R1 := hB62.st (by decide)
                refine ep_vret dX11_readAct_149 rfl ?_
                have hv4 : ¬ z_fa ((zhr (I 116) T.tx.length 60) p) = 4 := by rw [c59]; decide
                obtain ⟨hG1, hp1, hp2⟩ := hG.nw hM hO hf hv4
                have ht : T.tt p = 112 := (hM.hr hO hp1 hp2 (tp := 60)).symm.trans c59
                rw [show z_fa (T.tt p) = 9 from by rw [ht]; decide] at hG1
                have hG2 : zwG T (p + 2) 9 2 := hG1.nx hM hO (by decide) (z_st57.2 hd61) (zdg_ne hd61)
                have hG3 : zwG T (p + 3) 9 3 := hG2.nx hM hO (by decide) (z_st49.2 hd66) (zd9_ne hd66)
                have hge := hG3.1; have hgf := hG3.2.1
                refine ⟨rfl, (z_set (z_set (z_set J 125 (3 * k) ((zhr (I 116) T.tx.length 60) p)) 125 ((3 * k) + 1) ((zhr (I 116) T.tx.length 60) (p + 1) - 48)) 125 ((3 * k) + 2) (((zhr (I 116) T.tx.length 60) (p + 1 + 1) - 49) + 1)), (p + 1 + 1 + 1, -1), rfl, hB67, (fun q hq => by rw [z_set_nk (by omega), z_set_nk (by omega), z_set_nk (by omega)]), Or.inl ⟨?_, ?_, ?_⟩⟩
                · rw [show z_fa (T.tt p) = 9 from by rw [ht]; decide]; rfl
                · rw [show z_fa (T.tt p) = 9 from by rw [ht]; decide]; exact hG3
                · exact ⟨by rw [z_set_nk (by omega), z_set_nk (by omega), z_set_at, hM.hr hO hp1 hp2], by rw [z_set_nk (by omega), z_set_at, hM.hr hO (by omega) (by omega)], zac_dg hM hO (by omega) (by omega) hd61, fun _ => by rw [z_set_at, hM.hr hO (by omega) (by omega)];exact z_491 _, fun g => absurd g (by rw [ht]; decide), by rw [ht]; decide⟩
              · rw [zp_one_n hd66]
                show eb_P _ _ 146 [(2, .int ((zhr (I 116) T.tx.length 60) p)), (0, .ref 112), (1, .int (nI (3 * k)))] (.int 0 :: [.int (nI ((3 * k) + 2)), .ref 125]) (n, sl, kd, (zpw (z_set (z_set J 125 (3 * k) ((zhr (I 116) T.tx.length 60) p)) 125 ((3 * k) + 1) ((zhr (I 116) T.tx.length 60) (p + 1) - 48)) (p + 1 + 1, nI (p + 1 + 1))), L, R1) _
                refine ep_iconst (v := 1) dX11_readAct_146 (by decide) ?_
                refine ep_iadd dX11_readAct_147 ?_
                refine ep_topE (y := nI (0 + 1)) (nI_1 _) ?_
                refine ep_isN (k := ((3 * k) + 2)) dX11_readAct_148 (hF.lt (by decide)) (hF.lx (by decide)) (hF.ka (by decide) rfl) (by omega) (by decide) ?_
                refine ep_eq (σ2 := (n, sl, kd, zpw (z_set (z_set (z_set J 125 (3 * k) ((zhr (I 116) T.tx.length 60) p)) 125 ((3 * k) + 1) ((zhr (I 116) T.tx.length 60) (p + 1) - 48)) 125 ((3 * k) + 2) (nI (0 + 1))) (p + 1 + 1, nI (p + 1 + 1)), L, R1)) rfl rfl rfl (by rw [zpw_st (by decide)]) ?_
                have hB68 : zB n kd I Rf T 60 (z_set (z_set (z_set J 125 (3 * k) ((zhr (I 116) T.tx.length 60) p)) 125 ((3 * k) + 1) ((zhr (I 116) T.tx.length 60) (p + 1) - 48)) 125 ((3 * k) + 2) (nI (0 + 1))) R1 := hB62.st (by decide)
                refine ep_vret dX11_readAct_149 rfl ?_
                have hv4 : ¬ z_fa ((zhr (I 116) T.tx.length 60) p) = 4 := by rw [c59]; decide
                obtain ⟨hG1, hp1, hp2⟩ := hG.nw hM hO hf hv4
                have ht : T.tt p = 112 := (hM.hr hO hp1 hp2 (tp := 60)).symm.trans c59
                rw [show z_fa (T.tt p) = 9 from by rw [ht]; decide] at hG1
                have hG2 : zwG T (p + 2) 9 2 := hG1.nx hM hO (by decide) (z_st57.2 hd61) (zdg_ne hd61)
                exact ⟨rfl, (z_set (z_set (z_set J 125 (3 * k) ((zhr (I 116) T.tx.length 60) p)) 125 ((3 * k) + 1) ((zhr (I 116) T.tx.length 60) (p + 1) - 48)) 125 ((3 * k) + 2) (nI (0 + 1))), (p + 1 + 1, nI (p + 1 + 1)), rfl, hB68, (fun q hq => by rw [z_set_nk (by omega), z_set_nk (by omega), z_set_nk (by omega)]), Or.inr ⟨(p + 1 + 1), p + 1 + 1, by omega, by omega, rfl, hG2.no hM hO (by decide) (fun g => hd66 (z_st49.1 g))⟩⟩
            · rw [zp_one_n hd61]
              show eb_P _ _ 82 [(2, .int ((zhr (I 116) T.tx.length 60) p)), (0, .ref 112), (1, .int (nI (3 * k)))] (.int 0 :: [.int (nI ((3 * k) + 1)), .ref 125]) (n, sl, kd, (zpw (z_set J 125 (3 * k) ((zhr (I 116) T.tx.length 60) p)) (p + 1, nI (p + 1))), L, R1) _
              refine ep_isN (k := ((3 * k) + 1)) dX11_readAct_82 (hF.lt (by decide)) (hF.lx (by decide)) (hF.ka (by decide) rfl) (by omega) (by decide) ?_
              refine ep_eq (σ2 := (n, sl, kd, zpw (z_set (z_set J 125 (3 * k) ((zhr (I 116) T.tx.length 60) p)) 125 ((3 * k) + 1) 0) (p + 1, nI (p + 1)), L, R1)) rfl rfl rfl (by rw [zpw_st (by decide)]) ?_
              have hB69 : zB n kd I Rf T 60 (z_set (z_set J 125 (3 * k) ((zhr (I 116) T.tx.length 60) p)) 125 ((3 * k) + 1) 0) R1 := hB60.st (by decide)
              refine ep_iload_n (i := 2) dX11_readAct_83 rfl rfl ?_
              refine ep_bipush (v := 116) dX11_readAct_84 (by decide) ?_
              refine ep_icmp_ne (tgt := 105) dX11_readAct_86 (by decide) (fun c70 => ?_) (fun c70 => absurd (by rw [c59]; decide) c70)
              refine ep_iload_n (i := 2) dX11_readAct_105 rfl rfl ?_
              refine ep_bipush (v := 109) dX11_readAct_106 (by decide) ?_
              refine ep_icmp_ne (tgt := 125) dX11_readAct_108 (by decide) (fun c71 => ?_) (fun c71 => absurd (by rw [c59]; decide) c71)
              refine ep_iload_n (i := 2) dX11_readAct_125 rfl rfl ?_
              refine ep_bipush (v := 112) dX11_readAct_126 (by decide) ?_
              refine ep_icmp_ne (tgt := 149) dX11_readAct_128 (by decide) (fun c72 => absurd c72 (fun g => g c59)) (fun c72 => ?_)
              refine ep_aload_n (i := 0) dX11_readAct_131 rfl rfl ?_
              refine ep_getR dX11_readAct_132 flX11_52 (hF.lt (by decide)) (hF.kc (by decide) rfl) (hF.pt 118 rfl) ?_
              refine ep_iload_n (i := 1) dX11_readAct_135 rfl rfl ?_
              refine ep_iconst (v := 2) dX11_readAct_136 (by decide) ?_
              refine ep_iadd dX11_readAct_137 ?_
              refine ep_topE (y := nI ((3 * k) + 2)) (nI_add _ _) ?_
              refine ep_aload_n (i := 0) dX11_readAct_138 rfl rfl ?_
              refine ep_bipush (v := 49) dX11_readAct_139 (by decide) ?_
              refine ep_bipush (v := 9) dX11_readAct_141 (by decide) ?_
              refine ep_callV (M1 := mX11_oneOf) (rest := [.int (nI ((3 * k) + 2)), .ref 125]) dX11_readAct_143 mlX11_140 mvX11_oneOf rfl (hF.lt (by decide)) (hF.kc (by decide) rfl) (Nat.le_of_ble_eq_true rfl) rfl (q_X11_oneOf (I := (z_set (z_set J 125 (3 * k) ((zhr (I 116) T.tx.length 60) p)) 125 ((3 * k) + 1) 0)) (L := L) (d + 17) hB69.P (s := (p + 1, nI (p + 1))) (show p + 1 < 1000 by omega) (a := 49) (k := 9) (by decide) z_hk9) (fun _ _ g => Or.inl (by rw [g.1])) ?_
              rintro _ _ ⟨rfl, rfl⟩
              rw [zp_one_w (nI_nm1 _ (by omega))]
              show eb_P _ _ 146 [(2, .int ((zhr (I 116) T.tx.length 60) p)), (0, .ref 112), (1, .int (nI (3 * k)))] (.int 0 :: [.int (nI ((3 * k) + 2)), .ref 125]) (n, sl, kd, (zpw (z_set (z_set J 125 (3 * k) ((zhr (I 116) T.tx.length 60) p)) 125 ((3 * k) + 1) 0) (p + 1, nI (p + 1))), L, R1) _
              refine ep_iconst (v := 1) dX11_readAct_146 (by decide) ?_
              refine ep_iadd dX11_readAct_147 ?_
              refine ep_topE (y := nI (0 + 1)) (nI_1 _) ?_
              refine ep_isN (k := ((3 * k) + 2)) dX11_readAct_148 (hF.lt (by decide)) (hF.lx (by decide)) (hF.ka (by decide) rfl) (by omega) (by decide) ?_
              refine ep_eq (σ2 := (n, sl, kd, zpw (z_set (z_set (z_set J 125 (3 * k) ((zhr (I 116) T.tx.length 60) p)) 125 ((3 * k) + 1) 0) 125 ((3 * k) + 2) (nI (0 + 1))) (p + 1, nI (p + 1)), L, R1)) rfl rfl rfl (by rw [zpw_st (by decide)]) ?_
              have hB73 : zB n kd I Rf T 60 (z_set (z_set (z_set J 125 (3 * k) ((zhr (I 116) T.tx.length 60) p)) 125 ((3 * k) + 1) 0) 125 ((3 * k) + 2) (nI (0 + 1))) R1 := hB69.st (by decide)
              refine ep_vret dX11_readAct_149 rfl ?_
              have hv4 : ¬ z_fa ((zhr (I 116) T.tx.length 60) p) = 4 := by rw [c59]; decide
              obtain ⟨hG1, hp1, hp2⟩ := hG.nw hM hO hf hv4
              have ht : T.tt p = 112 := (hM.hr hO hp1 hp2 (tp := 60)).symm.trans c59
              rw [show z_fa (T.tt p) = 9 from by rw [ht]; decide] at hG1
              exact ⟨rfl, (z_set (z_set (z_set J 125 (3 * k) ((zhr (I 116) T.tx.length 60) p)) 125 ((3 * k) + 1) 0) 125 ((3 * k) + 2) (nI (0 + 1))), (p + 1, nI (p + 1)), rfl, hB73, (fun q hq => by rw [z_set_nk (by omega), z_set_nk (by omega), z_set_nk (by omega)]), Or.inr ⟨(p + 1), p + 1, by omega, by omega, rfl, hG1.no hM hO (by decide) (fun g => hd61 (z_st57.1 g))⟩⟩
          · skip
            refine ep_iload_n (i := 2) dX11_readAct_35 rfl rfl ?_
            refine ep_bipush (v := 115) dX11_readAct_36 (by decide) ?_
            refine ep_icmp_eq (tgt := 50) dX11_readAct_38 (by decide) (fun c74 => ?_) (fun c74 => ?_)
            · skip
              refine ep_aload_n (i := 0) dX11_readAct_50 rfl rfl ?_
              refine ep_dup dX11_readAct_51 rfl ?_
              refine ep_getI dX11_readAct_52 flX11_114 (hF.lt (by decide)) (hF.kc (by decide) rfl) ?_
              refine ep_topE (y := nI p) zpw_13 ?_
              refine ep_iconst (v := 1) dX11_readAct_55 (by decide) ?_
              refine ep_iadd dX11_readAct_56 ?_
              refine ep_topE (y := nI (p + 1)) (nI_add _ _) ?_
              refine ep_pI dX11_readAct_57 plX11_114 (hF.lt (by decide)) (hF.lx (by decide)) (hF.kc (by decide) rfl) rfl rfl ?_
              refine ep_eq (σ2 := (n, sl, kd, zpw J (p + 1, -1), L, R1)) rfl rfl rfl (by rw [zpw_s13]) ?_
              refine ep_aload_n (i := 0) dX11_readAct_60 rfl rfl ?_
              refine ep_getR dX11_readAct_61 flX11_52 (hF.lt (by decide)) (hF.kc (by decide) rfl) (hF.pt 118 rfl) ?_
              refine ep_iload_n (i := 1) dX11_readAct_64 rfl rfl ?_
              refine ep_iload_n (i := 2) dX11_readAct_65 rfl rfl ?_
              refine ep_isN (k := (3 * k)) dX11_readAct_66 (hF.lt (by decide)) (hF.lx (by decide)) (hF.ka (by decide) rfl) (by omega) (by decide) ?_
              refine ep_eq (σ2 := (n, sl, kd, zpw (z_set J 125 (3 * k) ((zhr (I 116) T.tx.length 60) p)) (p + 1, -1), L, R1)) rfl rfl rfl (by rw [zpw_st (by decide)]) ?_
              have hB75 : zB n kd I Rf T 60 (z_set J 125 (3 * k) ((zhr (I 116) T.tx.length 60) p)) R1 := hB.st (by decide)
              refine ep_aload_n (i := 0) dX11_readAct_67 rfl rfl ?_
              refine ep_getR dX11_readAct_68 flX11_52 (hF.lt (by decide)) (hF.kc (by decide) rfl) (hF.pt 118 rfl) ?_
              refine ep_iload_n (i := 1) dX11_readAct_71 rfl rfl ?_
              refine ep_iconst (v := 1) dX11_readAct_72 (by decide) ?_
              refine ep_iadd dX11_readAct_73 ?_
              refine ep_topE (y := nI ((3 * k) + 1)) (nI_add _ _) ?_
              refine ep_aload_n (i := 0) dX11_readAct_74 rfl rfl ?_
              refine ep_bipush (v := 48) dX11_readAct_75 (by decide) ?_
              refine ep_bipush (v := 10) dX11_readAct_77 (by decide) ?_
              refine ep_callV (M1 := mX11_oneOf) (rest := [.int (nI ((3 * k) + 1)), .ref 125]) dX11_readAct_79 mlX11_140 mvX11_oneOf rfl (hF.lt (by decide)) (hF.kc (by decide) rfl) (Nat.le_of_ble_eq_true rfl) rfl (q_X11_oneOf (I := (z_set J 125 (3 * k) ((zhr (I 116) T.tx.length 60) p))) (L := L) (d + 17) hB75.P (s := (p + 1, -1)) (show p + 1 < 1000 by omega) (a := 48) (k := 10) (by decide) z_hk10) (fun _ _ g => Or.inl (by rw [g.1])) ?_
              rintro _ _ ⟨rfl, rfl⟩
              by_cases hd76 : 48 ≤ (zhr (I 116) T.tx.length 60) (p + 1) ∧ (zhr (I 116) T.tx.length 60) (p + 1) ≤ 48 + 10 - 1
              · rw [zp_one_y hd76]
                show eb_P _ _ 82 [(2, .int ((zhr (I 116) T.tx.length 60) p)), (0, .ref 112), (1, .int (nI (3 * k)))] (.int ((zhr (I 116) T.tx.length 60) (p + 1) - 48) :: [.int (nI ((3 * k) + 1)), .ref 125]) (n, sl, kd, (zpw (z_set J 125 (3 * k) ((zhr (I 116) T.tx.length 60) p)) (p + 1 + 1, -1)), L, R1) _
                refine ep_isN (k := ((3 * k) + 1)) dX11_readAct_82 (hF.lt (by decide)) (hF.lx (by decide)) (hF.ka (by decide) rfl) (by omega) (by decide) ?_
                refine ep_eq (σ2 := (n, sl, kd, zpw (z_set (z_set J 125 (3 * k) ((zhr (I 116) T.tx.length 60) p)) 125 ((3 * k) + 1) ((zhr (I 116) T.tx.length 60) (p + 1) - 48)) (p + 1 + 1, -1), L, R1)) rfl rfl rfl (by rw [zpw_st (by decide)]) ?_
                have hB77 : zB n kd I Rf T 60 (z_set (z_set J 125 (3 * k) ((zhr (I 116) T.tx.length 60) p)) 125 ((3 * k) + 1) ((zhr (I 116) T.tx.length 60) (p + 1) - 48)) R1 := hB75.st (by decide)
                refine ep_iload_n (i := 2) dX11_readAct_83 rfl rfl ?_
                refine ep_bipush (v := 116) dX11_readAct_84 (by decide) ?_
                refine ep_icmp_ne (tgt := 105) dX11_readAct_86 (by decide) (fun c78 => ?_) (fun c78 => absurd (by rw [c74]; decide) c78)
                refine ep_iload_n (i := 2) dX11_readAct_105 rfl rfl ?_
                refine ep_bipush (v := 109) dX11_readAct_106 (by decide) ?_
                refine ep_icmp_ne (tgt := 125) dX11_readAct_108 (by decide) (fun c79 => ?_) (fun c79 => absurd (by rw [c74]; decide) c79)
                refine ep_iload_n (i := 2) dX11_readAct_125 rfl rfl ?_
                refine ep_bipush (v := 112) dX11_readAct_126 (by decide) ?_
                refine ep_icmp_ne (tgt := 149) dX11_readAct_128 (by decide) (fun c80 => ?_) (fun c80 => absurd (by rw [c74]; decide) c80)
                refine ep_vret dX11_readAct_149 rfl ?_
                have hv4 : ¬ z_fa ((zhr (I 116) T.tx.length 60) p) = 4 := by rw [c74]; decide
                obtain ⟨hG1, hp1, hp2⟩ := hG.nw hM hO hf hv4
                have ht : T.tt p = 115 := (hM.hr hO hp1 hp2 (tp := 60)).symm.trans c74
                rw [show z_fa (T.tt p) = 10 from by rw [ht]; decide] at hG1
                have hG2 : zwG T (p + 2) 10 2 := hG1.nx hM hO (by decide) (z_st57.2 hd76) (zdg_ne hd76)
                have hge := hG2.1; have hgf := hG2.2.1
                refine ⟨rfl, (z_set (z_set J 125 (3 * k) ((zhr (I 116) T.tx.length 60) p)) 125 ((3 * k) + 1) ((zhr (I 116) T.tx.length 60) (p + 1) - 48)), (p + 1 + 1, -1), rfl, hB77, (fun q hq => by rw [z_set_nk (by omega), z_set_nk (by omega)]), Or.inl ⟨?_, ?_, ?_⟩⟩
                · rw [show z_fa (T.tt p) = 10 from by rw [ht]; decide]; rfl
                · rw [show z_fa (T.tt p) = 10 from by rw [ht]; decide]; exact hG2
                · exact ⟨by rw [z_set_nk (by omega), z_set_at, hM.hr hO hp1 hp2], by rw [z_set_at, hM.hr hO (by omega) (by omega)], zac_dg hM hO (by omega) (by omega) hd76, fun g => absurd g (by rw [ht]; decide), fun g => absurd g (by rw [ht]; decide), by rw [ht]; decide⟩
              · rw [zp_one_n hd76]
                show eb_P _ _ 82 [(2, .int ((zhr (I 116) T.tx.length 60) p)), (0, .ref 112), (1, .int (nI (3 * k)))] (.int 0 :: [.int (nI ((3 * k) + 1)), .ref 125]) (n, sl, kd, (zpw (z_set J 125 (3 * k) ((zhr (I 116) T.tx.length 60) p)) (p + 1, nI (p + 1))), L, R1) _
                refine ep_isN (k := ((3 * k) + 1)) dX11_readAct_82 (hF.lt (by decide)) (hF.lx (by decide)) (hF.ka (by decide) rfl) (by omega) (by decide) ?_
                refine ep_eq (σ2 := (n, sl, kd, zpw (z_set (z_set J 125 (3 * k) ((zhr (I 116) T.tx.length 60) p)) 125 ((3 * k) + 1) 0) (p + 1, nI (p + 1)), L, R1)) rfl rfl rfl (by rw [zpw_st (by decide)]) ?_
                have hB81 : zB n kd I Rf T 60 (z_set (z_set J 125 (3 * k) ((zhr (I 116) T.tx.length 60) p)) 125 ((3 * k) + 1) 0) R1 := hB75.st (by decide)
                refine ep_iload_n (i := 2) dX11_readAct_83 rfl rfl ?_
                refine ep_bipush (v := 116) dX11_readAct_84 (by decide) ?_
                refine ep_icmp_ne (tgt := 105) dX11_readAct_86 (by decide) (fun c82 => ?_) (fun c82 => absurd (by rw [c74]; decide) c82)
                refine ep_iload_n (i := 2) dX11_readAct_105 rfl rfl ?_
                refine ep_bipush (v := 109) dX11_readAct_106 (by decide) ?_
                refine ep_icmp_ne (tgt := 125) dX11_readAct_108 (by decide) (fun c83 => ?_) (fun c83 => absurd (by rw [c74]; decide) c83)
                refine ep_iload_n (i := 2) dX11_readAct_125 rfl rfl ?_
                refine ep_bipush (v := 112) dX11_readAct_126 (by decide) ?_
                refine ep_icmp_ne (tgt := 149) dX11_readAct_128 (by decide) (fun c84 => ?_) (fun c84 => absurd (by rw [c74]; decide) c84)
                refine ep_vret dX11_readAct_149 rfl ?_
                have hv4 : ¬ z_fa ((zhr (I 116) T.tx.length 60) p) = 4 := by rw [c74]; decide
                obtain ⟨hG1, hp1, hp2⟩ := hG.nw hM hO hf hv4
                have ht : T.tt p = 115 := (hM.hr hO hp1 hp2 (tp := 60)).symm.trans c74
                rw [show z_fa (T.tt p) = 10 from by rw [ht]; decide] at hG1
                exact ⟨rfl, (z_set (z_set J 125 (3 * k) ((zhr (I 116) T.tx.length 60) p)) 125 ((3 * k) + 1) 0), (p + 1, nI (p + 1)), rfl, hB81, (fun q hq => by rw [z_set_nk (by omega), z_set_nk (by omega)]), Or.inr ⟨(p + 1), p + 1, by omega, by omega, rfl, hG1.no hM hO (by decide) (fun g => hd76 (z_st57.1 g))⟩⟩
            · skip
              refine ep_aload_n (i := 0) dX11_readAct_41 rfl rfl ?_
              refine ep_aload_n (i := 0) dX11_readAct_42 rfl rfl ?_
              refine ep_getI dX11_readAct_43 flX11_114 (hF.lt (by decide)) (hF.kc (by decide) rfl) ?_
              refine ep_topE (y := nI p) zpw_13 ?_
              refine ep_callV (M1 := mX11_fault) (rest := []) dX11_readAct_46 mlX11_136 mvX11_fault rfl (hF.lt (by decide)) (hF.kc (by decide) rfl) (Nat.le_of_ble_eq_true rfl) rfl (q_X11_fault (I := J) (L := L) (d + 18) hB.P (s := (p, -1)) (show p < 1000 by omega) p) (eb_vok rfl) ?_
              rintro _ _ ⟨rfl, rfl⟩
              rw [show zp_fault p (p, -1) = (p, nI p) from rfl]
              show eb_P _ _ 49 [(2, .int ((zhr (I 116) T.tx.length 60) p)), (0, .ref 112), (1, .int (nI (3 * k)))] [] (n, sl, kd, (zpw J (p, nI p)), L, R1) _
              refine ep_vret dX11_readAct_49 rfl ?_
              exact ⟨rfl, J, (p, nI p), rfl, hB, (fun q hq => rfl), Or.inr ⟨p, p, by omega, by omega, rfl, hG.nn hM hO hf hp (z_fa_4 c1 c12 c29 c48 c59 c74)⟩⟩
