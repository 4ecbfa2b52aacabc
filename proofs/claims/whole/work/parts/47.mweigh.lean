/-! the reference: begin, weightOf, sidesOf, pullBy, windOf, momentOf, pullOf -/
def zsc (I I1 : Nat → Nat → Int32) (Rf R1 : Nat → Nat → Option Nat) : Prop := (∀ c, c ≠ 112 → c ≠ 121 → I1 c = I c) ∧ (∀ k, k ≠ 11 → k ≠ 12 → k ≠ 13 → k ≠ 14 → k ≠ 19 → I1 112 k = I 112 k) ∧ ∀ c k, ¬ (c = 112 ∧ k = 10) → R1 c k = Rf c k
theorem zsc.E {f : Nat} {B : Nat → Int32} {I I7 I1 : Nat → Nat → Int32} {Rf R7 R1 : Nat → Nat → Option Nat} (g : zsc I7 I1 R7 R1) (h : zE f B I I7 Rf R7) : zE f B I I1 Rf R1 := by
  refine ⟨fun c k hs => ?_, fun c k hs => (g.2.2 c k hs).trans (h.2.1 c k hs), h.2.2.cg ?_ ?_ ?_⟩
  · rw [← h.1 c k hs]
    by_cases e : c = 112
    · subst e; exact g.2.1 k (fun e => hs (by unfold zscr; omega)) (fun e => hs (by unfold zscr; omega)) (fun e => hs (by unfold zscr; omega)) (fun e => hs (by unfold zscr; omega)) (fun e => hs (by unfold zscr; omega))
    · rw [g.1 c e (fun e => hs (by unfold zscr; omega))]
  · rw [g.1 5 (by decide) (by decide)]
  · exact g.1 19 (by decide) (by decide)
  · exact g.1 20 (by decide) (by decide)
/-- the reference's state modulo scratch -/
theorem zM.E {n : Nat} {kd : Nat → Nat × Nat} {I I7 : Nat → Nat → Int32} {L : Nat → Nat → Int64} {Rf R7 : Nat → Nat → Option Nat} {T : zT} {f : Nat} {B : Nat → Int32} (h : zM n kd I L Rf T) (g : zE f B I I7 Rf R7) : zM n kd I7 L R7 T := by
  have hc : ∀ c, 112 < c → c ≤ 136 → c ≠ 121 → I7 c = I c := fun c h1 h2 h3 => g.cell (by unfold znc; omega)
  have hf : ∀ k, ¬ (k = 11 ∨ k = 12 ∨ k = 13 ∨ k = 14 ∨ k = 19) → I7 112 k = I 112 k := fun k hk => g.1 112 k (by unfold zscr; omega)
  refine ⟨h.F.tr g.2.1, (g.2.1 112 16 (by decide)).trans h.ru, ?_, ?_, ?_, ?_, ?_, ?_, ?_, ?_, ?_, ?_, ?_, ?_⟩
  · rw [hf 18 (by omega), hc 119 (by omega) (by omega) (by omega)]; exact h.rv
  · rw [hf 6 (by omega), hc 116 (by omega) (by omega) (by omega)]; exact h.tx
  · rw [hf 8 (by omega)]; exact h.rw
  · rw [hc 114 (by omega) (by omega) (by omega)]; exact h.pr
  · rw [hf 4 (by omega)]; exact h.wm
  · rw [hc 115 (by omega) (by omega) (by omega)]; exact h.wd
  · rw [hf 1 (by omega)]; exact h.c
  · rw [hc 113 (by omega) (by omega) (by omega)]; exact h.x
  · rw [hf 22 (by omega), hc 122 (by omega) (by omega) (by omega)]; exact h.un
  · rw [hf 38 (by omega), hc 134 (by omega) (by omega) (by omega), hc 135 (by omega) (by omega) (by omega), hc 136 (by omega) (by omega) (by omega)]; exact h.kp
  · rw [hf 30 (by omega), hc 126 (by omega) (by omega) (by omega), hc 127 (by omega) (by omega) (by omega), hc 128 (by omega) (by omega) (by omega)]; exact h.sn
  · rw [hf 34 (by omega), hc 130 (by omega) (by omega) (by omega), hc 131 (by omega) (by omega) (by omega)]; exact h.hd
/-- what weights and winds need of the reference's cells -/
def zW (n : Nat) (kd : Nat → Nat × Nat) (I : Nat → Nat → Int32) (Rf : Nat → Nat → Option Nat) (T : zT) : Prop := (zF n kd Rf) ∧ (∃ rc, (rc = 119 ∨ rc = 120) ∧ Rf 112 16 = some rc ∧ ∃ s, s ≤ 40 ∧ I 112 18 = nI s ∧ (∀ k, k < s → ∃ v, v < 256 ∧ I rc k = (nI v).toInt8.toInt32) ∧ ∀ th, zrvM (I rc) s th = T.rv th) ∧ (∀ t, t < 6 → I 114 t = T.pr t) ∧ (I 112 4 = nI T.wm) ∧ (∀ k, k < T.wm → I 115 k = T.wd k) ∧ (I 112 1 = nI T.c)
theorem zW.F {n : Nat} {kd : Nat → Nat × Nat} {I : Nat → Nat → Int32} {Rf : Nat → Nat → Option Nat} {T : zT} (h : zW n kd I Rf T) : zF n kd Rf := h.1
theorem zW.rv {n : Nat} {kd : Nat → Nat × Nat} {I : Nat → Nat → Int32} {Rf : Nat → Nat → Option Nat} {T : zT} (h : zW n kd I Rf T) : ∃ rc, (rc = 119 ∨ rc = 120) ∧ Rf 112 16 = some rc ∧ ∃ s, s ≤ 40 ∧ I 112 18 = nI s ∧ (∀ k, k < s → ∃ v, v < 256 ∧ I rc k = (nI v).toInt8.toInt32) ∧ ∀ th, zrvM (I rc) s th = T.rv th := h.2.1
theorem zW.pr {n : Nat} {kd : Nat → Nat × Nat} {I : Nat → Nat → Int32} {Rf : Nat → Nat → Option Nat} {T : zT} (h : zW n kd I Rf T) : ∀ t, t < 6 → I 114 t = T.pr t := h.2.2.1
theorem zW.wm {n : Nat} {kd : Nat → Nat × Nat} {I : Nat → Nat → Int32} {Rf : Nat → Nat → Option Nat} {T : zT} (h : zW n kd I Rf T) : I 112 4 = nI T.wm := h.2.2.2.1
theorem zW.wd {n : Nat} {kd : Nat → Nat × Nat} {I : Nat → Nat → Int32} {Rf : Nat → Nat → Option Nat} {T : zT} (h : zW n kd I Rf T) : ∀ k, k < T.wm → I 115 k = T.wd k := h.2.2.2.2.1
theorem zW.c {n : Nat} {kd : Nat → Nat × Nat} {I : Nat → Nat → Int32} {Rf : Nat → Nat → Option Nat} {T : zT} (h : zW n kd I Rf T) : I 112 1 = nI T.c := h.2.2.2.2.2
theorem zM.W {n : Nat} {kd : Nat → Nat × Nat} {I : Nat → Nat → Int32} {L : Nat → Nat → Int64} {Rf : Nat → Nat → Option Nat} {T : zT} (h : zM n kd I L Rf T) : zW n kd I Rf T := ⟨h.F, ⟨119, Or.inl rfl, h.ru, h.rv⟩, h.pr, h.wm, h.wd, h.c⟩
theorem zW.fr {n n1 : Nat} {kd kd1 : Nat → Nat × Nat} {I J : Nat → Nat → Int32} {Rf R1 : Nat → Nat → Option Nat} {T : zT} (h : zW n kd I Rf T) (hF : zF n1 kd1 R1) (hR : R1 112 16 = Rf 112 16) (hc : ∀ c, c = 114 ∨ c = 115 ∨ c = 119 ∨ c = 120 → J c = I c) (hf : ∀ k, k = 1 ∨ k = 4 ∨ k = 18 → J 112 k = I 112 k) : zW n1 kd1 J R1 T := by
  obtain ⟨rc, hrc, e1, s, h4, e2, e3, e4⟩ := h.rv
  refine ⟨hF, ⟨rc, hrc, hR.trans e1, s, h4, (hf 18 (by omega)).trans e2, ?_, ?_⟩, ?_, (hf 4 (by omega)).trans h.wm, ?_, (hf 1 (by omega)).trans h.c⟩
  · rw [hc rc (by omega)]; exact e3
  · rw [hc rc (by omega)]; exact e4
  · rw [hc 114 (by omega)]; exact h.pr
  · rw [hc 115 (by omega)]; exact h.wd
theorem zW.E {n : Nat} {kd : Nat → Nat × Nat} {I I7 : Nat → Nat → Int32} {Rf R7 : Nat → Nat → Option Nat} {T : zT} {f : Nat} {B : Nat → Int32} (h : zW n kd I Rf T) (g : zE f B I I7 Rf R7) : zW n kd I7 R7 T :=
  h.fr (h.F.tr g.2.1) (g.2.1 112 16 (by decide)) (fun c hc => g.cell (by unfold znc; omega)) (fun k hk => g.1 112 k (by unfold zscr; omega))
/-- another state of the same weights -/
theorem zW.to {n : Nat} {kd : Nat → Nat × Nat} {I : Nat → Nat → Int32} {Rf : Nat → Nat → Option Nat} {T T1 : zT} (h : zW n kd I Rf T) (e1 : T1.rv = T.rv) (e2 : T1.pr = T.pr) (e3 : T1.wm = T.wm) (e4 : T1.wd = T.wd) (e5 : T1.c = T.c) : zW n kd I Rf T1 := by
  refine ⟨h.F, ?_, ?_, ?_, ?_, ?_⟩
  · rw [e1]; exact h.rv
  · rw [e2]; exact h.pr
  · rw [e3]; exact h.wm
  · rw [e3, e4]; exact h.wd
  · rw [e5]; exact h.c
theorem z_pn {n : Nat} {kd : Nat → Nat × Nat} {Rf : Nat → Nat → Option Nat} {p : Nat} (hF : zF n kd Rf) (hp : p = 113 ∨ p = 124) : p < n := hF.lt (by omega)
theorem z_pk {n : Nat} {kd : Nat → Nat × Nat} {Rf : Nat → Nat → Option Nat} {p : Nat} (hF : zF n kd Rf) (hp : p = 113 ∨ p = 124) : kd p = (20, 26) := by rcases hp with rfl | rfl <;> exact hF.ka (by decide) rfl
theorem z_px {n : Nat} {kd : Nat → Nat × Nat} {Rf : Nat → Nat → Option Nat} {p : Nat} (hF : zF n kd Rf) (hp : p = 113 ∨ p = 124) : p < 1000000 := by omega
/-- what begin writes -/
def z_bgn (I : Nat → Nat → Int32) (l tp : Int32) : Nat → Nat → Int32 := z_set (z_set (z_set (z_set I 112 11 l) 112 12 tp) 112 13 0) 112 14 (-1)
theorem z_bgn_ne {I : Nat → Nat → Int32} {l tp : Int32} {c : Nat} (h : c ≠ 112) : z_bgn I l tp c = I c := by unfold z_bgn; rw [z_set_ne h, z_set_ne h, z_set_ne h, z_set_ne h]
theorem z_bgn_f {I : Nat → Nat → Int32} {l tp : Int32} {k : Nat} (h : k ≠ 11 ∧ k ≠ 12 ∧ k ≠ 13 ∧ k ≠ 14) : z_bgn I l tp 112 k = I 112 k := by unfold z_bgn; rw [z_set_nk h.2.2.2, z_set_nk h.2.2.1, z_set_nk h.2.1, z_set_nk h.1]
theorem z_bgn_v {I : Nat → Nat → Int32} {l tp : Int32} : z_bgn I l tp 112 11 = l ∧ z_bgn I l tp 112 12 = tp ∧ z_bgn I l tp 112 13 = 0 ∧ z_bgn I l tp 112 14 = -1 := by
  unfold z_bgn
  exact ⟨by rw [z_set_nk (by decide), z_set_nk (by decide), z_set_nk (by decide), z_set_at], by rw [z_set_nk (by decide), z_set_nk (by decide), z_set_at], by rw [z_set_nk (by decide), z_set_at], z_set_at⟩
/-- the reference's read row set -/
def z_rd (Rf : Nat → Nat → Option Nat) (rc : Nat) : Nat → Nat → Option Nat := va_up Rf 112 (va_up (Rf 112) 10 (some rc))
theorem z_rd_at {Rf : Nat → Nat → Option Nat} {rc : Nat} : z_rd Rf rc 112 10 = some rc := by simp [z_rd, va_up]
theorem z_rd_ne {Rf : Nat → Nat → Option Nat} {rc c k : Nat} (h : ¬ (c = 112 ∧ k = 10)) : z_rd Rf rc c k = Rf c k := by
  unfold z_rd va_up
  by_cases e : c = 112
  · subst e
    have : k ≠ 10 := fun e => h ⟨rfl, e⟩
    simp [this]
  · simp [e]
theorem q_X11_begin {n : Nat} {sl : Nat × Nat} {kd : Nat → Nat × Nat} {I : Nat → Nat → Int32} {L : Nat → Nat → Int64} {Rf : Nat → Nat → Option Nat} (d : Nat) (hF : zF n kd Rf) {rc : Nat} (hrc : rc < n) (l tp : Int32)  : eb_Q mX11_begin d [.ref 112, .ref rc, .int l, .int tp] (n, sl, kd, I, L, Rf) (eb_v (n, sl, kd, z_bgn I l tp, L, z_rd Rf rc)) := by
  refine ep_meth pn_X.2.2.2.2.2.2.2.2.2.2.2 (Nat.le_of_ble_eq_true rfl) ?_
  show eb_P _ _ 0 [(0, .ref 112), (1, .ref rc), (2, .int l), (3, .int tp)] [] (n, sl, kd, I, L, Rf) _
  refine ep_aload_n (i := 0) dX11_begin_0 rfl rfl ?_
  refine ep_aload_n (i := 1) dX11_begin_1 rfl rfl ?_
  refine ep_putR dX11_begin_2 plX11_105 (fun h => by cases h) (hF.lt (by decide)) (hF.kc (by decide) rfl) (Or.inl hrc) ?_
  refine ep_nmR (fun R1 hR1 => ?_)
  refine ep_aload_n (i := 0) dX11_begin_5 rfl rfl ?_
  refine ep_iload_n (i := 2) dX11_begin_6 rfl rfl ?_
  refine ep_pI dX11_begin_7 plX11_108 (hF.lt (by decide)) (hF.lx (by decide)) (hF.kc (by decide) rfl) rfl rfl ?_
  refine ep_nmI (fun I2 hI2 => ?_)
  refine ep_aload_n (i := 0) dX11_begin_10 rfl rfl ?_
  refine ep_iload_n (i := 3) dX11_begin_11 rfl rfl ?_
  refine ep_pI dX11_begin_12 plX11_111 (hF.lt (by decide)) (hF.lx (by decide)) (hF.kc (by decide) rfl) rfl rfl ?_
  refine ep_nmI (fun I3 hI3 => ?_)
  refine ep_aload_n (i := 0) dX11_begin_15 rfl rfl ?_
  refine ep_iconst (v := 0) dX11_begin_16 (by decide) ?_
  refine ep_pI dX11_begin_17 plX11_114 (hF.lt (by decide)) (hF.lx (by decide)) (hF.kc (by decide) rfl) rfl rfl ?_
  refine ep_nmI (fun I4 hI4 => ?_)
  refine ep_aload_n (i := 0) dX11_begin_20 rfl rfl ?_
  refine ep_iconst (v := (-1)) dX11_begin_21 (by decide) ?_
  refine ep_pI dX11_begin_22 plX11_117 (hF.lt (by decide)) (hF.lx (by decide)) (hF.kc (by decide) rfl) rfl rfl ?_
  refine ep_nmI (fun I5 hI5 => ?_)
  refine ep_vret dX11_begin_25 rfl ?_
  exact ⟨by subst_vars; rfl, rfl⟩
theorem zpw_id {I : Nat → Nat → Int32} (h13 : I 112 13 = 0) (h14 : I 112 14 = -1) : zpw I (0, -1) = I := by
  unfold zpw
  rw [show nI (((0, -1) : zps).1) = I 112 13 from nI_0.trans h13.symm, show (((0, -1) : zps).2) = I 112 14 from h14.symm]
  funext a i
  unfold z_set
  split
  · rename_i h; rw [h.1, h.2]
  · split
    · rename_i h; rw [h.1, h.2]
    · rfl
theorem q_X11_held0 {n : Nat} {sl : Nat × Nat} {kd : Nat → Nat × Nat} {I : Nat → Nat → Int32} {L : Nat → Nat → Int64} {Rf : Nat → Nat → Option Nat} {rc m ln : Nat} {t as : Nat → Int32} (hP : zpc n kd I Rf rc m ln 40 t) (hA : (I 112 19 = 1 ∧ ∀ q, q < 7 → I 121 q = as q) ∨ (I 112 19 = 0 ∧ ∀ q, as q = 0)) (h13 : I 112 13 = 0) (h14 : I 112 14 = -1) (d : Nat) : eb_Q mX11_held (d + 305) [.ref 112, .int 0] (n, sl, kd, I, L, Rf) (eb_r (zp (zhr t ln 40) as 300 0 0 0 (0, -1)).1 (n, sl, kd, zpw I (zp (zhr t ln 40) as 300 0 0 0 (0, -1)).2, L, Rf)) := by
  have h := q_X11_held (sl := sl) (L := L) hP hA d
  rw [zpw_id h13 h14, nI_0] at h
  exact h
theorem z_put_mm (v : Int32) (lo hi : Int32) (h : lo ≤ hi) : (if lo < (if v < hi then v else hi) then (if v < hi then v else hi) else lo) = z_put v lo hi := by
  unfold z_put
  by_cases h1 : v < lo
  · have h2 : v < hi := Int32.lt_of_lt_of_le h1 h
    rw [if_pos h1, if_pos h2, if_neg (Int32.not_lt.mpr (Int32.le_of_lt h1))]
  · rw [if_neg h1]
    by_cases h2 : hi < v
    · rw [if_pos h2, if_neg (Int32.not_lt.mpr (Int32.le_of_lt h2))]
      by_cases h3 : lo < hi
      · rw [if_pos h3]
      · rw [if_neg h3]; exact Int32.le_antisymm h (Int32.not_lt.mp h3)
    · rw [if_neg h2]
      by_cases h3 : v < hi
      · rw [if_pos h3]
        by_cases h4 : lo < v
        · rw [if_pos h4]
        · rw [if_neg h4]; exact Int32.le_antisymm (Int32.not_lt.mp h1) (Int32.not_lt.mp h4)
      · have e : v = hi := Int32.le_antisymm (Int32.not_lt.mp h2) (Int32.not_lt.mp h3)
        rw [if_neg h3, e]
        by_cases h4 : lo < hi
        · rw [if_pos h4]
        · rw [if_neg h4]; exact Int32.le_antisymm h (Int32.not_lt.mp h4)
/-- how many others of the first k have b's thought -/
def z_alk (t : Nat → Int32) (b : Nat) : Nat → Int32
  | 0 => 0
  | k + 1 => z_alk t b k + (if k ≠ b ∧ t k = t b then 1 else 0)
theorem z_alk_cnt (t : Nat → Int32) (b k : Nat) : z_alk t b k = z_cnt t (t b) k + (if b < k then 0 else 1) := by
  induction k with
  | zero => rw [if_neg (by omega), z_alk, z_cnt]; decide
  | succ k ih =>
    rw [z_alk, z_cnt, ih]
    by_cases h1 : k = b
    · subst h1
      rw [if_neg (by omega), if_neg (fun e => e.1 rfl), if_pos rfl, if_pos (by omega)]
    · by_cases h2 : b < k
      · rw [if_pos h2, if_pos (show b < k + 1 by omega), Int32.add_zero, Int32.add_zero]
        by_cases h3 : t k = t b
        · rw [if_pos ⟨h1, h3⟩, if_pos h3]
        · rw [if_neg (fun e => h3 e.2), if_neg h3]
      · rw [if_neg h2, if_neg (show ¬ b < k + 1 by omega)]
        by_cases h3 : t k = t b
        · rw [if_pos ⟨h1, h3⟩, if_pos h3]
        · rw [if_neg (fun e => h3 e.2), if_neg h3, Int32.add_zero, Int32.add_zero]
theorem z_alk_c (t : Nat → Int32) {b k : Nat} (h : b < k) : z_alk t b k = z_cnt t (t b) k := by rw [z_alk_cnt, if_pos h, Int32.add_zero]
theorem z_alk_cg {t u : Nat → Int32} {b k : Nat} (hb : t b = u b) (h : ∀ o, o < k → t o = u o) : z_alk t b k = z_alk u b k := by
  induction k with
  | zero => rfl
  | succ k ih => rw [z_alk, z_alk, ih (fun o ho => h o (by omega)), h k (by omega), hb]
/-- what a call ends with that writes scratch alone -/
def zpS (n : Nat) (sl : Nat × Nat) (kd : Nat → Nat × Nat) (I : Nat → Nat → Int32) (L : Nat → Nat → Int64) (Rf : Nat → Nat → Option Nat) (v : Int32) : Option Value → eb_S → Prop := fun r τ => r = some (.int v) ∧ ∃ I1 R1, τ = (n, sl, kd, I1, L, R1) ∧ zsc I I1 Rf R1
theorem zpS.q {n : Nat} {sl : Nat × Nat} {kd : Nat → Nat × Nat} {I : Nat → Nat → Int32} {L : Nat → Nat → Int64} {Rf : Nat → Nat → Option Nat} {M : eb_M} {d : Nat} {as : List Value} {v : Int32} {f : Nat} {B : Nat → Int32} {I7 : Nat → Nat → Int32} {R7 : Nat → Nat → Option Nat} (h7 : zE f B I I7 Rf R7) (h : eb_Q M d as (n, sl, kd, I7, L, R7) (zpS n sl kd I7 L R7 v)) : eb_Q M d as (n, sl, kd, I7, L, R7) (zΦ f (fun C => C = B) (eb_r v (n, sl, kd, I, L, Rf))) :=
  h.to (by rintro r τ ⟨rfl, I1, R1, rfl, g⟩; exact ⟨I, Rf, B, rfl, g.E h7, rfl, rfl⟩)
theorem q_X11_weightOf_113rc {n : Nat} {sl : Nat × Nat} {kd : Nat → Nat × Nat} {I : Nat → Nat → Int32} {L : Nat → Nat → Int64} {Rf : Nat → Nat → Option Nat} (d : Nat) {T : zT} (hM : zW n kd I Rf T) (hc7 : T.c ≤ 7) {H : Nat} {x : Nat → Int32} (hx : ∀ k, k < 26 → I 113 k = x k) (hxr : zxr T.c H x) (hH : H ≤ 2147483648) {b : Nat} (hb : b < T.c) {s : Nat} {rc : Nat} (hs : I 112 18 = nI s) (hs4 : s ≤ 40) (hby : ∀ k, k < s → ∃ v, v < 256 ∧ I rc k = (nI v).toInt8.toInt32) (hrv : ∀ th, zrvM (I rc) s th = T.rv th) (hs0 : s = 0)  : eb_Q mX11_weightOf (d + 306) [.ref 112, .ref 113, .int (nI b)] (n, sl, kd, I, L, Rf) (zpS n sl kd I L Rf (zwl T.rv T.pr T.c x (x 22) (x 25) b)) := by
  refine ep_meth pn_X.2.2.2.2.2.2.2.2.2.2.2 (Nat.le_of_ble_eq_true rfl) ?_
  have hF := hM.F
  obtain ⟨tb, htb, etb⟩ := hxr.t b hb
  show eb_P _ _ 0 [(0, .ref 112), (1, .ref 113), (2, .int (nI b))] [] (n, sl, kd, I, L, Rf) _
  refine ep_aload_n (i := 1) dX11_weightOf_0 rfl rfl ?_
  refine ep_iload_n (i := 2) dX11_weightOf_1 rfl rfl ?_
  refine ep_iaN (k := b) dX11_weightOf_2 (hF.lt (by decide)) (hF.ka (by decide) rfl) (by omega) (by decide) ?_
  refine ep_topE (y := x b) (hx _ (by omega)) ?_
  refine ep_aload_n (i := 0) dX11_weightOf_3 rfl rfl ?_
  refine ep_getR dX11_weightOf_4 flX11_13 (hF.lt (by decide)) (hF.kc (by decide) rfl) (hF.pt 108 rfl) ?_
  refine ep_aload_n (i := 1) dX11_weightOf_7 rfl rfl ?_
  refine ep_bipush (v := 7) dX11_weightOf_8 (by decide) ?_
  refine ep_iload_n (i := 2) dX11_weightOf_10 rfl rfl ?_
  refine ep_iadd dX11_weightOf_11 ?_
  refine ep_topE (y := nI (7 + b)) (nI_add _ _) ?_
  refine ep_iaN (k := (7 + b)) dX11_weightOf_12 (hF.lt (by decide)) (hF.ka (by decide) rfl) (by omega) (by decide) ?_
  refine ep_topE (y := nI tb) ((hx _ (by omega)).trans etb) ?_
  refine ep_iaN (k := tb) dX11_weightOf_13 (hF.lt (by decide)) (hF.ka (by decide) rfl) (by omega) (by decide) ?_
  refine ep_topE (y := T.pr tb) (hM.pr tb htb) ?_
  refine ep_iadd dX11_weightOf_14 ?_
  refine ep_istore_n (l' := [(3, .int ((x b) + (T.pr tb))), (0, .ref 112), (1, .ref 113), (2, .int (nI b))]) dX11_weightOf_15 rfl (by decide) rfl ?_
  refine ep_aload_n (i := 0) dX11_weightOf_16 rfl rfl ?_
  refine ep_getI dX11_weightOf_17 flX11_189 (hF.lt (by decide)) (hF.kc (by decide) rfl) ?_
  refine ep_topE (y := nI s) hs ?_
  refine ep_if_le (tgt := 189) dX11_weightOf_20 (by decide) (fun c1 => ?_) (fun c1 => absurd (by rw [hs0]; decide) c1)
  refine ep_iconst (v := 0) dX11_weightOf_189 (by decide) ?_
  refine ep_bipush (v := 20) dX11_weightOf_190 (by decide) ?_
  refine ep_iload_n (i := 3) dX11_weightOf_192 rfl rfl ?_
  refine ep_min dX11_weightOf_193 xmX11_197 (Nat.le_of_ble_eq_true rfl) ?_
  refine ep_max dX11_weightOf_196 xmX11_201 (Nat.le_of_ble_eq_true rfl) ?_
  refine ep_iret dX11_weightOf_199 rfl rfl ?_
  have hJ : ∀ c, I c = I c := fun c => rfl
  have hJf : ∀ k, I 112 k = I 112 k := fun k => rfl
  have e2 : zwl T.rv T.pr T.c x (x 22) (x 25) b = z_put (x b + T.pr tb) 0 20 := by unfold zwl; rw [etb, nI_clamp (by omega), ← hrv, hs0, zrvM, if_pos rfl]; rfl --]
  exact ⟨by rw [e2, ← z_put_mm _ _ _ (by decide)], _, _, rfl, ⟨fun c _ _ => rfl, fun k _ _ _ _ _ => rfl, fun c k g => rfl⟩⟩
theorem q_X11_weightOf_124rc {n : Nat} {sl : Nat × Nat} {kd : Nat → Nat × Nat} {I : Nat → Nat → Int32} {L : Nat → Nat → Int64} {Rf : Nat → Nat → Option Nat} (d : Nat) {T : zT} (hM : zW n kd I Rf T) (hc7 : T.c ≤ 7) {H : Nat} {x : Nat → Int32} (hx : ∀ k, k < 26 → I 124 k = x k) (hxr : zxr T.c H x) (hH : H ≤ 2147483648) {b : Nat} (hb : b < T.c) {s : Nat} {rc : Nat} (hs : I 112 18 = nI s) (hs4 : s ≤ 40) (hby : ∀ k, k < s → ∃ v, v < 256 ∧ I rc k = (nI v).toInt8.toInt32) (hrv : ∀ th, zrvM (I rc) s th = T.rv th) (hs0 : s = 0)  : eb_Q mX11_weightOf (d + 306) [.ref 112, .ref 124, .int (nI b)] (n, sl, kd, I, L, Rf) (zpS n sl kd I L Rf (zwl T.rv T.pr T.c x (x 22) (x 25) b)) := by
  refine ep_meth pn_X.2.2.2.2.2.2.2.2.2.2.2 (Nat.le_of_ble_eq_true rfl) ?_
  have hF := hM.F
  obtain ⟨tb, htb, etb⟩ := hxr.t b hb
  show eb_P _ _ 0 [(0, .ref 112), (1, .ref 124), (2, .int (nI b))] [] (n, sl, kd, I, L, Rf) _
  refine ep_aload_n (i := 1) dX11_weightOf_0 rfl rfl ?_
  refine ep_iload_n (i := 2) dX11_weightOf_1 rfl rfl ?_
  refine ep_iaN (k := b) dX11_weightOf_2 (hF.lt (by decide)) (hF.ka (by decide) rfl) (by omega) (by decide) ?_
  refine ep_topE (y := x b) (hx _ (by omega)) ?_
  refine ep_aload_n (i := 0) dX11_weightOf_3 rfl rfl ?_
  refine ep_getR dX11_weightOf_4 flX11_13 (hF.lt (by decide)) (hF.kc (by decide) rfl) (hF.pt 108 rfl) ?_
  refine ep_aload_n (i := 1) dX11_weightOf_7 rfl rfl ?_
  refine ep_bipush (v := 7) dX11_weightOf_8 (by decide) ?_
  refine ep_iload_n (i := 2) dX11_weightOf_10 rfl rfl ?_
  refine ep_iadd dX11_weightOf_11 ?_
  refine ep_topE (y := nI (7 + b)) (nI_add _ _) ?_
  refine ep_iaN (k := (7 + b)) dX11_weightOf_12 (hF.lt (by decide)) (hF.ka (by decide) rfl) (by omega) (by decide) ?_
  refine ep_topE (y := nI tb) ((hx _ (by omega)).trans etb) ?_
  refine ep_iaN (k := tb) dX11_weightOf_13 (hF.lt (by decide)) (hF.ka (by decide) rfl) (by omega) (by decide) ?_
  refine ep_topE (y := T.pr tb) (hM.pr tb htb) ?_
  refine ep_iadd dX11_weightOf_14 ?_
  refine ep_istore_n (l' := [(3, .int ((x b) + (T.pr tb))), (0, .ref 112), (1, .ref 124), (2, .int (nI b))]) dX11_weightOf_15 rfl (by decide) rfl ?_
  refine ep_aload_n (i := 0) dX11_weightOf_16 rfl rfl ?_
  refine ep_getI dX11_weightOf_17 flX11_189 (hF.lt (by decide)) (hF.kc (by decide) rfl) ?_
  refine ep_topE (y := nI s) hs ?_
  refine ep_if_le (tgt := 189) dX11_weightOf_20 (by decide) (fun c1 => ?_) (fun c1 => absurd (by rw [hs0]; decide) c1)
  refine ep_iconst (v := 0) dX11_weightOf_189 (by decide) ?_
  refine ep_bipush (v := 20) dX11_weightOf_190 (by decide) ?_
  refine ep_iload_n (i := 3) dX11_weightOf_192 rfl rfl ?_
  refine ep_min dX11_weightOf_193 xmX11_197 (Nat.le_of_ble_eq_true rfl) ?_
  refine ep_max dX11_weightOf_196 xmX11_201 (Nat.le_of_ble_eq_true rfl) ?_
  refine ep_iret dX11_weightOf_199 rfl rfl ?_
  have hJ : ∀ c, I c = I c := fun c => rfl
  have hJf : ∀ k, I 112 k = I 112 k := fun k => rfl
  have e2 : zwl T.rv T.pr T.c x (x 22) (x 25) b = z_put (x b + T.pr tb) 0 20 := by unfold zwl; rw [etb, nI_clamp (by omega), ← hrv, hs0, zrvM, if_pos rfl]; rfl --]
  exact ⟨by rw [e2, ← z_put_mm _ _ _ (by decide)], _, _, rfl, ⟨fun c _ _ => rfl, fun k _ _ _ _ _ => rfl, fun c k g => rfl⟩⟩
theorem q_X11_weightOf_113119 {n : Nat} {sl : Nat × Nat} {kd : Nat → Nat × Nat} {I : Nat → Nat → Int32} {L : Nat → Nat → Int64} {Rf : Nat → Nat → Option Nat} (d : Nat) {T : zT} (hM : zW n kd I Rf T) (hc7 : T.c ≤ 7) {H : Nat} {x : Nat → Int32} (hx : ∀ k, k < 26 → I 113 k = x k) (hxr : zxr T.c H x) (hH : H ≤ 2147483648) {b : Nat} (hb : b < T.c) {s : Nat} (hru : Rf 112 16 = some 119) (hs : I 112 18 = nI s) (hs4 : s ≤ 40) (hby : ∀ k, k < s → ∃ v, v < 256 ∧ I 119 k = (nI v).toInt8.toInt32) (hrv : ∀ th, zrvM (I 119) s th = T.rv th) (hs0 : 0 < s)  : eb_Q mX11_weightOf (d + 306) [.ref 112, .ref 113, .int (nI b)] (n, sl, kd, I, L, Rf) (zpS n sl kd I L Rf (zwl T.rv T.pr T.c x (x 22) (x 25) b)) := by
  refine ep_meth pn_X.2.2.2.2.2.2.2.2.2.2.2 (Nat.le_of_ble_eq_true rfl) ?_
  have hF := hM.F
  obtain ⟨tb, htb, etb⟩ := hxr.t b hb
  show eb_P _ _ 0 [(0, .ref 112), (1, .ref 113), (2, .int (nI b))] [] (n, sl, kd, I, L, Rf) _
  refine ep_aload_n (i := 1) dX11_weightOf_0 rfl rfl ?_
  refine ep_iload_n (i := 2) dX11_weightOf_1 rfl rfl ?_
  refine ep_iaN (k := b) dX11_weightOf_2 (hF.lt (by decide)) (hF.ka (by decide) rfl) (by omega) (by decide) ?_
  refine ep_topE (y := x b) (hx _ (by omega)) ?_
  refine ep_aload_n (i := 0) dX11_weightOf_3 rfl rfl ?_
  refine ep_getR dX11_weightOf_4 flX11_13 (hF.lt (by decide)) (hF.kc (by decide) rfl) (hF.pt 108 rfl) ?_
  refine ep_aload_n (i := 1) dX11_weightOf_7 rfl rfl ?_
  refine ep_bipush (v := 7) dX11_weightOf_8 (by decide) ?_
  refine ep_iload_n (i := 2) dX11_weightOf_10 rfl rfl ?_
  refine ep_iadd dX11_weightOf_11 ?_
  refine ep_topE (y := nI (7 + b)) (nI_add _ _) ?_
  refine ep_iaN (k := (7 + b)) dX11_weightOf_12 (hF.lt (by decide)) (hF.ka (by decide) rfl) (by omega) (by decide) ?_
  refine ep_topE (y := nI tb) ((hx _ (by omega)).trans etb) ?_
  refine ep_iaN (k := tb) dX11_weightOf_13 (hF.lt (by decide)) (hF.ka (by decide) rfl) (by omega) (by decide) ?_
  refine ep_topE (y := T.pr tb) (hM.pr tb htb) ?_
  refine ep_iadd dX11_weightOf_14 ?_
  refine ep_istore_n (l' := [(3, .int ((x b) + (T.pr tb))), (0, .ref 112), (1, .ref 113), (2, .int (nI b))]) dX11_weightOf_15 rfl (by decide) rfl ?_
  refine ep_aload_n (i := 0) dX11_weightOf_16 rfl rfl ?_
  refine ep_getI dX11_weightOf_17 flX11_189 (hF.lt (by decide)) (hF.kc (by decide) rfl) ?_
  refine ep_topE (y := nI s) hs ?_
  refine ep_if_le (tgt := 189) dX11_weightOf_20 (by decide) (fun c1 => absurd c1 (nI_nle hs0 (by omega))) (fun c1 => ?_)
  refine ep_iconst (v := 0) dX11_weightOf_23 (by decide) ?_
  refine ep_istore (l' := [(4, .int 0), (3, .int ((x b) + (T.pr tb))), (0, .ref 112), (1, .ref 113), (2, .int (nI b))]) dX11_weightOf_24 (by decide) rfl ?_
  refine ep_iconst (v := 0) dX11_weightOf_26 (by decide) ?_
  refine ep_istore (l' := [(5, .int 0), (4, .int 0), (3, .int ((x b) + (T.pr tb))), (0, .ref 112), (1, .ref 113), (2, .int (nI b))]) dX11_weightOf_27 (by decide) rfl ?_
  refine ep_eq (l2 := [(5, .int (nI 0)), (4, .int (z_alk (fun o => x (7 + o)) b 0)), (3, .int (x b + T.pr tb)), (0, .ref 112), (1, .ref 113), (2, .int (nI b))]) (σ2 := (n, sl, kd, I, L, Rf)) rfl (by rw [nI_0]; rfl) rfl rfl ?_
  refine ep_for T.c (fun k (a : Unit) => ([(5, .int (nI k)), (4, .int (z_alk (fun o => x (7 + o)) b k)), (3, .int (x b + T.pr tb)), (0, .ref 112), (1, .ref 113), (2, .int (nI b))], (n, sl, kd, I, L, Rf))) (fun k a => True) ?_ ?_ T.c 0 () (by omega) trivial
  · intro k a hk hinv ih
    show eb_P _ _ 29 [(5, .int (nI k)), (4, .int (z_alk (fun o => x (7 + o)) b k)), (3, .int (x b + T.pr tb)), (0, .ref 112), (1, .ref 113), (2, .int (nI b))] [] (n, sl, kd, I, L, Rf) _
    refine ep_iload (i := 5) dX11_weightOf_29 rfl ?_
    refine ep_aload_n (i := 0) dX11_weightOf_31 rfl rfl ?_
    refine ep_getI dX11_weightOf_32 flX11_95 (hF.lt (by decide)) (hF.kc (by decide) rfl) ?_
    refine ep_topE (y := nI T.c) hM.c ?_
    refine ep_icmp_ge (tgt := 76) dX11_weightOf_35 (by decide) (fun c2 => absurd c2 (nI_ge hk (by omega))) (fun c2 => ?_)
    refine ep_iload (i := 4) dX11_weightOf_38 rfl ?_
    refine ep_iload (i := 5) dX11_weightOf_40 rfl ?_
    refine ep_iload_n (i := 2) dX11_weightOf_42 rfl rfl ?_
    refine ep_icmp_eq (tgt := 66) dX11_weightOf_43 (by decide) (fun c3 => ?_) (fun c3 => ?_)
    · skip
      refine ep_iconst (v := 0) dX11_weightOf_66 (by decide) ?_
      refine ep_iadd dX11_weightOf_67 ?_
      refine ep_istore (l' := [(4, .int ((z_alk (fun o => x (7 + o)) b k) + 0)), (5, .int (nI k)), (3, .int (x b + T.pr tb)), (0, .ref 112), (1, .ref 113), (2, .int (nI b))]) dX11_weightOf_68 (by decide) rfl ?_
      refine ep_iinc (v := (nI (k + 1))) (l' := [(5, .int ((nI (k + 1)))), (4, .int ((z_alk (fun o => x (7 + o)) b k) + 0)), (3, .int (x b + T.pr tb)), (0, .ref 112), (1, .ref 113), (2, .int (nI b))]) dX11_weightOf_70 rfl (nI_1 _) (by decide) rfl ?_
      refine ep_goto (tgt := 29) dX11_weightOf_73 (by decide) ?_
      refine ep_eq (l2 := [(5, .int (nI (k + 1))), (4, .int (z_alk (fun o => x (7 + o)) b (k + 1))), (3, .int (x b + T.pr tb)), (0, .ref 112), (1, .ref 113), (2, .int (nI b))]) rfl ?_ rfl rfl (ih () trivial)
      rw [z_alk]
      first | rw [if_pos ⟨fun e => absurd (congrArg nI e) (by assumption), (by show x (7 + k) = x (7 + b); rw [etb]; exact Classical.not_not.mp (by assumption)) ⟩] | rw [if_neg (fun e => absurd (show x (7 + k) = nI tb from e.2.trans etb) (by assumption))] | rw [if_neg (fun e => e.1 (z_nIinj (by assumption) (by omega) (by omega)))]
    · skip
      refine ep_aload_n (i := 1) dX11_weightOf_46 rfl rfl ?_
      refine ep_bipush (v := 7) dX11_weightOf_47 (by decide) ?_
      refine ep_iload (i := 5) dX11_weightOf_49 rfl ?_
      refine ep_iadd dX11_weightOf_51 ?_
      refine ep_topE (y := nI (7 + k)) (nI_add _ _) ?_
      refine ep_iaN (k := (7 + k)) dX11_weightOf_52 (hF.lt (by decide)) (hF.ka (by decide) rfl) (by omega) (by decide) ?_
      refine ep_topE (y := x (7 + k)) (hx _ (by omega)) ?_
      refine ep_aload_n (i := 1) dX11_weightOf_53 rfl rfl ?_
      refine ep_bipush (v := 7) dX11_weightOf_54 (by decide) ?_
      refine ep_iload_n (i := 2) dX11_weightOf_56 rfl rfl ?_
      refine ep_iadd dX11_weightOf_57 ?_
      refine ep_topE (y := nI (7 + b)) (nI_add _ _) ?_
      refine ep_iaN (k := (7 + b)) dX11_weightOf_58 (hF.lt (by decide)) (hF.ka (by decide) rfl) (by omega) (by decide) ?_
      refine ep_topE (y := nI tb) ((hx _ (by omega)).trans etb) ?_
      refine ep_icmp_ne (tgt := 66) dX11_weightOf_59 (by decide) (fun c4 => ?_) (fun c4 => ?_)
      · skip
        refine ep_iconst (v := 0) dX11_weightOf_66 (by decide) ?_
        refine ep_iadd dX11_weightOf_67 ?_
        refine ep_istore (l' := [(4, .int ((z_alk (fun o => x (7 + o)) b k) + 0)), (5, .int (nI k)), (3, .int (x b + T.pr tb)), (0, .ref 112), (1, .ref 113), (2, .int (nI b))]) dX11_weightOf_68 (by decide) rfl ?_
        refine ep_iinc (v := (nI (k + 1))) (l' := [(5, .int ((nI (k + 1)))), (4, .int ((z_alk (fun o => x (7 + o)) b k) + 0)), (3, .int (x b + T.pr tb)), (0, .ref 112), (1, .ref 113), (2, .int (nI b))]) dX11_weightOf_70 rfl (nI_1 _) (by decide) rfl ?_
        refine ep_goto (tgt := 29) dX11_weightOf_73 (by decide) ?_
        refine ep_eq (l2 := [(5, .int (nI (k + 1))), (4, .int (z_alk (fun o => x (7 + o)) b (k + 1))), (3, .int (x b + T.pr tb)), (0, .ref 112), (1, .ref 113), (2, .int (nI b))]) rfl ?_ rfl rfl (ih () trivial)
        rw [z_alk]
        first | rw [if_pos ⟨fun e => absurd (congrArg nI e) (by assumption), (by show x (7 + k) = x (7 + b); rw [etb]; exact Classical.not_not.mp (by assumption)) ⟩] | rw [if_neg (fun e => absurd (show x (7 + k) = nI tb from e.2.trans etb) (by assumption))] | rw [if_neg (fun e => e.1 (z_nIinj (by assumption) (by omega) (by omega)))]
      · skip
        refine ep_iconst (v := 1) dX11_weightOf_62 (by decide) ?_
        refine ep_goto (tgt := 67) dX11_weightOf_63 (by decide) ?_
        refine ep_iadd dX11_weightOf_67 ?_
        refine ep_istore (l' := [(4, .int ((z_alk (fun o => x (7 + o)) b k) + 1)), (5, .int (nI k)), (3, .int (x b + T.pr tb)), (0, .ref 112), (1, .ref 113), (2, .int (nI b))]) dX11_weightOf_68 (by decide) rfl ?_
        refine ep_iinc (v := (nI (k + 1))) (l' := [(5, .int ((nI (k + 1)))), (4, .int ((z_alk (fun o => x (7 + o)) b k) + 1)), (3, .int (x b + T.pr tb)), (0, .ref 112), (1, .ref 113), (2, .int (nI b))]) dX11_weightOf_70 rfl (nI_1 _) (by decide) rfl ?_
        refine ep_goto (tgt := 29) dX11_weightOf_73 (by decide) ?_
        refine ep_eq (l2 := [(5, .int (nI (k + 1))), (4, .int (z_alk (fun o => x (7 + o)) b (k + 1))), (3, .int (x b + T.pr tb)), (0, .ref 112), (1, .ref 113), (2, .int (nI b))]) rfl ?_ rfl rfl (ih () trivial)
        rw [z_alk]
        first | rw [if_pos ⟨fun e => absurd (congrArg nI e) (by assumption), (by show x (7 + k) = x (7 + b); rw [etb]; exact Classical.not_not.mp (by assumption)) ⟩] | rw [if_neg (fun e => absurd (show x (7 + k) = nI tb from e.2.trans etb) (by assumption))] | rw [if_neg (fun e => e.1 (z_nIinj (by assumption) (by omega) (by omega)))]
  · intro a hinv
    show eb_P _ _ 29 [(5, .int (nI T.c)), (4, .int (z_alk (fun o => x (7 + o)) b T.c)), (3, .int (x b + T.pr tb)), (0, .ref 112), (1, .ref 113), (2, .int (nI b))] [] (n, sl, kd, I, L, Rf) _
    refine ep_iload (i := 5) dX11_weightOf_29 rfl ?_
    refine ep_aload_n (i := 0) dX11_weightOf_31 rfl rfl ?_
    refine ep_getI dX11_weightOf_32 flX11_95 (hF.lt (by decide)) (hF.kc (by decide) rfl) ?_
    refine ep_topE (y := nI T.c) hM.c ?_
    refine ep_icmp_ge (tgt := 76) dX11_weightOf_35 (by decide) (fun c5 => ?_) (fun c5 => absurd (nI_le (Nat.le_refl _) (by omega)) c5)
    refine ep_aload_n (i := 0) dX11_weightOf_76 rfl rfl ?_
    refine ep_getR dX11_weightOf_77 flX11_40 (hF.lt (by decide)) (hF.kc (by decide) rfl) (hF.pt 114 rfl) ?_
    refine ep_iconst (v := 0) dX11_weightOf_80 (by decide) ?_
    refine ep_aload_n (i := 1) dX11_weightOf_81 rfl rfl ?_
    refine ep_iload_n (i := 2) dX11_weightOf_82 rfl rfl ?_
    refine ep_iaN (k := b) dX11_weightOf_83 (hF.lt (by decide)) (hF.ka (by decide) rfl) (by omega) (by decide) ?_
    refine ep_topE (y := x b) (hx _ (by omega)) ?_
    refine ep_isN (k := 0) dX11_weightOf_84 (hF.lt (by decide)) (hF.lx (by decide)) (hF.ka (by decide) rfl) (by omega) (by decide) ?_
    refine ep_nmI (fun I6 hI6 => ?_)
    refine ep_aload_n (i := 0) dX11_weightOf_85 rfl rfl ?_
    refine ep_getR dX11_weightOf_86 flX11_40 (hF.lt (by decide)) (hF.kc (by decide) rfl) (hF.pt 114 rfl) ?_
    refine ep_iconst (v := 1) dX11_weightOf_89 (by decide) ?_
    refine ep_aload_n (i := 0) dX11_weightOf_90 rfl rfl ?_
    refine ep_getR dX11_weightOf_91 flX11_13 (hF.lt (by decide)) (hF.kc (by decide) rfl) (hF.pt 108 rfl) ?_
    refine ep_aload_n (i := 1) dX11_weightOf_94 rfl rfl ?_
    refine ep_bipush (v := 7) dX11_weightOf_95 (by decide) ?_
    refine ep_iload_n (i := 2) dX11_weightOf_97 rfl rfl ?_
    refine ep_iadd dX11_weightOf_98 ?_
    refine ep_topE (y := nI (7 + b)) (nI_add _ _) ?_
    refine ep_iaN (k := (7 + b)) dX11_weightOf_99 (hF.lt (by decide)) (hF.ka (by decide) rfl) (by omega) (by decide) ?_
    refine ep_topE (y := I 113 (7 + b)) (by rw [hI6, z_set_ne (by decide)]) ?_
    refine ep_topE (y := nI tb) ((hx _ (by omega)).trans etb) ?_
    refine ep_iaN (k := tb) dX11_weightOf_100 (hF.lt (by decide)) (hF.ka (by decide) rfl) (by omega) (by decide) ?_
    refine ep_topE (y := I 114 tb) (by rw [hI6, z_set_ne (by decide)]) ?_
    refine ep_topE (y := T.pr tb) (hM.pr tb htb) ?_
    refine ep_isN (k := 1) dX11_weightOf_101 (hF.lt (by decide)) (hF.lx (by decide)) (hF.ka (by decide) rfl) (by omega) (by decide) ?_
    refine ep_nmI (fun I7 hI7 => ?_)
    refine ep_aload_n (i := 0) dX11_weightOf_102 rfl rfl ?_
    refine ep_getR dX11_weightOf_103 flX11_40 (hF.lt (by decide)) (hF.kc (by decide) rfl) (hF.pt 114 rfl) ?_
    refine ep_iconst (v := 2) dX11_weightOf_106 (by decide) ?_
    refine ep_iload (i := 4) dX11_weightOf_107 rfl ?_
    refine ep_isN (k := 2) dX11_weightOf_109 (hF.lt (by decide)) (hF.lx (by decide)) (hF.ka (by decide) rfl) (by omega) (by decide) ?_
    refine ep_nmI (fun I8 hI8 => ?_)
    refine ep_aload_n (i := 0) dX11_weightOf_110 rfl rfl ?_
    refine ep_getR dX11_weightOf_111 flX11_40 (hF.lt (by decide)) (hF.kc (by decide) rfl) (hF.pt 114 rfl) ?_
    refine ep_iconst (v := 3) dX11_weightOf_114 (by decide) ?_
    refine ep_aload_n (i := 1) dX11_weightOf_115 rfl rfl ?_
    refine ep_bipush (v := 14) dX11_weightOf_116 (by decide) ?_
    refine ep_iload_n (i := 2) dX11_weightOf_118 rfl rfl ?_
    refine ep_iadd dX11_weightOf_119 ?_
    refine ep_topE (y := nI (14 + b)) (nI_add _ _) ?_
    refine ep_iaN (k := (14 + b)) dX11_weightOf_120 (hF.lt (by decide)) (hF.ka (by decide) rfl) (by omega) (by decide) ?_
    refine ep_topE (y := I 113 (14 + b)) (by rw [hI8, z_set_ne (by decide), hI7, z_set_ne (by decide), hI6, z_set_ne (by decide)]) ?_
    refine ep_topE (y := x (14 + b)) (hx _ (by omega)) ?_
    refine ep_abs dX11_weightOf_121 xmX11_192 (Nat.le_of_ble_eq_true rfl) ?_
    refine ep_topE (y := z_ab (x (14 + b))) rfl ?_
    refine ep_isN (k := 3) dX11_weightOf_124 (hF.lt (by decide)) (hF.lx (by decide)) (hF.ka (by decide) rfl) (by omega) (by decide) ?_
    refine ep_nmI (fun I9 hI9 => ?_)
    refine ep_aload_n (i := 0) dX11_weightOf_125 rfl rfl ?_
    refine ep_getR dX11_weightOf_126 flX11_40 (hF.lt (by decide)) (hF.kc (by decide) rfl) (hF.pt 114 rfl) ?_
    refine ep_iconst (v := 4) dX11_weightOf_129 (by decide) ?_
    refine ep_aload_n (i := 1) dX11_weightOf_130 rfl rfl ?_
    refine ep_bipush (v := 22) dX11_weightOf_131 (by decide) ?_
    refine ep_iaN (k := 22) dX11_weightOf_133 (hF.lt (by decide)) (hF.ka (by decide) rfl) (by omega) (by decide) ?_
    refine ep_topE (y := I 113 22) (by rw [hI9, z_set_ne (by decide), hI8, z_set_ne (by decide), hI7, z_set_ne (by decide), hI6, z_set_ne (by decide)]) ?_
    refine ep_topE (y := x 22) (hx _ (by omega)) ?_
    refine ep_abs dX11_weightOf_134 xmX11_192 (Nat.le_of_ble_eq_true rfl) ?_
    refine ep_topE (y := z_ab (x 22)) rfl ?_
    refine ep_isN (k := 4) dX11_weightOf_137 (hF.lt (by decide)) (hF.lx (by decide)) (hF.ka (by decide) rfl) (by omega) (by decide) ?_
    refine ep_nmI (fun I10 hI10 => ?_)
    refine ep_aload_n (i := 0) dX11_weightOf_138 rfl rfl ?_
    refine ep_getR dX11_weightOf_139 flX11_40 (hF.lt (by decide)) (hF.kc (by decide) rfl) (hF.pt 114 rfl) ?_
    refine ep_iconst (v := 5) dX11_weightOf_142 (by decide) ?_
    refine ep_iload_n (i := 2) dX11_weightOf_143 rfl rfl ?_
    refine ep_isN (k := 5) dX11_weightOf_144 (hF.lt (by decide)) (hF.lx (by decide)) (hF.ka (by decide) rfl) (by omega) (by decide) ?_
    refine ep_nmI (fun I11 hI11 => ?_)
    refine ep_aload_n (i := 0) dX11_weightOf_145 rfl rfl ?_
    refine ep_getR dX11_weightOf_146 flX11_40 (hF.lt (by decide)) (hF.kc (by decide) rfl) (hF.pt 114 rfl) ?_
    refine ep_bipush (v := 6) dX11_weightOf_149 (by decide) ?_
    refine ep_aload_n (i := 1) dX11_weightOf_151 rfl rfl ?_
    refine ep_bipush (v := 25) dX11_weightOf_152 (by decide) ?_
    refine ep_iaN (k := 25) dX11_weightOf_154 (hF.lt (by decide)) (hF.ka (by decide) rfl) (by omega) (by decide) ?_
    refine ep_topE (y := I 113 25) (by rw [hI11, z_set_ne (by decide), hI10, z_set_ne (by decide), hI9, z_set_ne (by decide), hI8, z_set_ne (by decide), hI7, z_set_ne (by decide), hI6, z_set_ne (by decide)]) ?_
    refine ep_topE (y := x 25) (hx _ (by omega)) ?_
    refine ep_bipush (v := 7) dX11_weightOf_155 (by decide) ?_
    refine ep_irem dX11_weightOf_157 (by decide) ?_
    refine ep_isN (k := 6) dX11_weightOf_158 (hF.lt (by decide)) (hF.lx (by decide)) (hF.ka (by decide) rfl) (by omega) (by decide) ?_
    refine ep_nmI (fun I12 hI12 => ?_)
    refine ep_aload_n (i := 0) dX11_weightOf_159 rfl rfl ?_
    refine ep_aload_n (i := 0) dX11_weightOf_160 rfl rfl ?_
    refine ep_getR dX11_weightOf_161 flX11_34 (hF.lt (by decide)) (hF.kc (by decide) rfl) hru ?_
    refine ep_aload_n (i := 0) dX11_weightOf_164 rfl rfl ?_
    refine ep_getI dX11_weightOf_165 flX11_189 (hF.lt (by decide)) (hF.kc (by decide) rfl) ?_
    refine ep_topE (y := I 112 18) (by rw [hI12, z_set_ne (by decide), hI11, z_set_ne (by decide), hI10, z_set_ne (by decide), hI9, z_set_ne (by decide), hI8, z_set_ne (by decide), hI7, z_set_ne (by decide), hI6, z_set_ne (by decide)]) ?_
    refine ep_topE (y := nI s) hs ?_
    refine ep_bipush (v := 40) dX11_weightOf_168 (by decide) ?_
    refine ep_callV (M1 := mX11_begin) (rest := []) dX11_weightOf_170 mlX11_120 mvX11_begin rfl (hF.lt (by decide)) (hF.kc (by decide) rfl) (Nat.le_of_ble_eq_true rfl) rfl (q_X11_begin (I := I12) (d + 305) hF (hF.lt (by decide)) (nI s) 40) (eb_vok rfl) ?_
    rintro _ _ ⟨rfl, rfl⟩
    show eb_P _ _ 173 [(5, .int (nI T.c)), (4, .int (z_alk (fun o => x (7 + o)) b T.c)), (3, .int (x b + T.pr tb)), (0, .ref 112), (1, .ref 113), (2, .int (nI b))] [] (n, sl, kd, z_bgn I12 (nI s) 40, L, z_rd Rf 119) _
    refine ep_nmI (fun I13 hI13 => ?_)
    refine ep_aload_n (i := 0) dX11_weightOf_173 rfl rfl ?_
    refine ep_iconst (v := 1) dX11_weightOf_174 (by decide) ?_
    refine ep_pI dX11_weightOf_175 plX11_182 (hF.lt (by decide)) (hF.lx (by decide)) (hF.kc (by decide) rfl) rfl rfl ?_
    refine ep_nmI (fun I14 hI14 => ?_)
    refine ep_aload_n (i := 0) dX11_weightOf_178 rfl rfl ?_
    refine ep_iconst (v := 0) dX11_weightOf_179 (by decide) ?_
    have hvv := (z_bgn_v (I := I12) (l := nI s) (tp := 40))
    have hP : zpc n kd I14 (z_rd Rf 119) 119 40 s 40 (I 119) := ⟨hF.tr (fun c k g => z_rd_ne g), z_rd_at, hF.ka (by decide) rfl, ⟨hs4, by decide⟩, ⟨by decide, by decide⟩, (by rw [hI14, z_set_nk (by decide), hI13]; exact hvv.1), ⟨(by rw [hI14, z_set_nk (by decide), hI13]; exact hvv.2.1), by decide⟩, (by rw [hI14, z_set_ne (by decide), hI13, z_bgn_ne (by decide), hI12, z_set_ne (by decide), hI11, z_set_ne (by decide), hI10, z_set_ne (by decide), hI9, z_set_ne (by decide), hI8, z_set_ne (by decide), hI7, z_set_ne (by decide), hI6, z_set_ne (by decide)]), hby⟩
    have ha0 : I14 121 0 = z_t7 (x b) (T.pr tb) (z_alk (fun o => x (7 + o)) b T.c) (z_ab (x (14 + b))) (z_ab (x 22)) (nI b) (x 25 - x 25 / 7 * 7) 0 := by rw [hI14, z_set_ne (by decide), hI13, z_bgn_ne (by decide), hI12, z_set_nk (by decide), hI11, z_set_nk (by decide), hI10, z_set_nk (by decide), hI9, z_set_nk (by decide), hI8, z_set_nk (by decide), hI7, z_set_nk (by decide), hI6, z_set_at]; rfl
    have ha1 : I14 121 1 = z_t7 (x b) (T.pr tb) (z_alk (fun o => x (7 + o)) b T.c) (z_ab (x (14 + b))) (z_ab (x 22)) (nI b) (x 25 - x 25 / 7 * 7) 1 := by rw [hI14, z_set_ne (by decide), hI13, z_bgn_ne (by decide), hI12, z_set_nk (by decide), hI11, z_set_nk (by decide), hI10, z_set_nk (by decide), hI9, z_set_nk (by decide), hI8, z_set_nk (by decide), hI7, z_set_at]; rfl
    have ha2 : I14 121 2 = z_t7 (x b) (T.pr tb) (z_alk (fun o => x (7 + o)) b T.c) (z_ab (x (14 + b))) (z_ab (x 22)) (nI b) (x 25 - x 25 / 7 * 7) 2 := by rw [hI14, z_set_ne (by decide), hI13, z_bgn_ne (by decide), hI12, z_set_nk (by decide), hI11, z_set_nk (by decide), hI10, z_set_nk (by decide), hI9, z_set_nk (by decide), hI8, z_set_at]; rfl
    have ha3 : I14 121 3 = z_t7 (x b) (T.pr tb) (z_alk (fun o => x (7 + o)) b T.c) (z_ab (x (14 + b))) (z_ab (x 22)) (nI b) (x 25 - x 25 / 7 * 7) 3 := by rw [hI14, z_set_ne (by decide), hI13, z_bgn_ne (by decide), hI12, z_set_nk (by decide), hI11, z_set_nk (by decide), hI10, z_set_nk (by decide), hI9, z_set_at]; rfl
    have ha4 : I14 121 4 = z_t7 (x b) (T.pr tb) (z_alk (fun o => x (7 + o)) b T.c) (z_ab (x (14 + b))) (z_ab (x 22)) (nI b) (x 25 - x 25 / 7 * 7) 4 := by rw [hI14, z_set_ne (by decide), hI13, z_bgn_ne (by decide), hI12, z_set_nk (by decide), hI11, z_set_nk (by decide), hI10, z_set_at]; rfl
    have ha5 : I14 121 5 = z_t7 (x b) (T.pr tb) (z_alk (fun o => x (7 + o)) b T.c) (z_ab (x (14 + b))) (z_ab (x 22)) (nI b) (x 25 - x 25 / 7 * 7) 5 := by rw [hI14, z_set_ne (by decide), hI13, z_bgn_ne (by decide), hI12, z_set_nk (by decide), hI11, z_set_at]; rfl
    have ha6 : I14 121 6 = z_t7 (x b) (T.pr tb) (z_alk (fun o => x (7 + o)) b T.c) (z_ab (x (14 + b))) (z_ab (x 22)) (nI b) (x 25 - x 25 / 7 * 7) 6 := by rw [hI14, z_set_ne (by decide), hI13, z_bgn_ne (by decide), hI12, z_set_at]; rfl
    have hA : (I14 112 19 = 1 ∧ ∀ q, q < 7 → I14 121 q = z_t7 (x b) (T.pr tb) (z_alk (fun o => x (7 + o)) b T.c) (z_ab (x (14 + b))) (z_ab (x 22)) (nI b) (x 25 - x 25 / 7 * 7) q) ∨ (I14 112 19 = 0 ∧ ∀ q, z_t7 (x b) (T.pr tb) (z_alk (fun o => x (7 + o)) b T.c) (z_ab (x (14 + b))) (z_ab (x 22)) (nI b) (x 25 - x 25 / 7 * 7) q = 0) := Or.inl ⟨by rw [hI14, z_set_at], fun q hq => by rcases (show q = 0 ∨ q = 1 ∨ q = 2 ∨ q = 3 ∨ q = 4 ∨ q = 5 ∨ q = 6 by omega) with rfl | rfl | rfl | rfl | rfl | rfl | rfl <;> assumption⟩
    refine ep_callV (M1 := mX11_held) (rest := []) dX11_weightOf_180 mlX11_169 mvX11_held rfl (hF.lt (by decide)) (hF.kc (by decide) rfl) (Nat.le_of_ble_eq_true rfl) rfl (q_X11_held0 hP hA (by rw [hI14, z_set_nk (by decide), hI13]; exact hvv.2.2.1) (by rw [hI14, z_set_nk (by decide), hI13]; exact hvv.2.2.2) d) (fun _ _ g => Or.inl (by rw [g.1])) ?_
    rintro _ _ ⟨rfl, rfl⟩
    show eb_P _ _ 183 [(5, .int (nI T.c)), (4, .int (z_alk (fun o => x (7 + o)) b T.c)), (3, .int (x b + T.pr tb)), (0, .ref 112), (1, .ref 113), (2, .int (nI b))] (.int (zp (zhr (I 119) s 40) (z_t7 (x b) (T.pr tb) (z_alk (fun o => x (7 + o)) b T.c) (z_ab (x (14 + b))) (z_ab (x 22)) (nI b) (x 25 - x 25 / 7 * 7)) 300 0 0 0 (0, -1)).1 :: []) (n, sl, kd, zpw I14 (zp (zhr (I 119) s 40) (z_t7 (x b) (T.pr tb) (z_alk (fun o => x (7 + o)) b T.c) (z_ab (x (14 + b))) (z_ab (x 22)) (nI b) (x 25 - x 25 / 7 * 7)) 300 0 0 0 (0, -1)).2, L, z_rd Rf 119) _
    refine ep_nmI (fun I15 hI15 => ?_)
    refine ep_topi (fun hv hhv => ?_)
    refine ep_istore_n (l' := [(3, .int hv), (5, .int (nI T.c)), (4, .int (z_alk (fun o => x (7 + o)) b T.c)), (0, .ref 112), (1, .ref 113), (2, .int (nI b))]) dX11_weightOf_183 rfl (by decide) rfl ?_
    refine ep_aload_n (i := 0) dX11_weightOf_184 rfl rfl ?_
    refine ep_iconst (v := 0) dX11_weightOf_185 (by decide) ?_
    refine ep_pI dX11_weightOf_186 plX11_182 (hF.lt (by decide)) (hF.lx (by decide)) (hF.kc (by decide) rfl) rfl rfl ?_
    refine ep_nmI (fun I16 hI16 => ?_)
    refine ep_iconst (v := 0) dX11_weightOf_189 (by decide) ?_
    refine ep_bipush (v := 20) dX11_weightOf_190 (by decide) ?_
    refine ep_iload_n (i := 3) dX11_weightOf_192 rfl rfl ?_
    refine ep_min dX11_weightOf_193 xmX11_197 (Nat.le_of_ble_eq_true rfl) ?_
    refine ep_max dX11_weightOf_196 xmX11_201 (Nat.le_of_ble_eq_true rfl) ?_
    refine ep_iret dX11_weightOf_199 rfl rfl ?_
    have hJ : ∀ c, c ≠ 112 → c ≠ 121 → I16 c = I c := fun c g112 g121 => by rw [hI16, z_set_ne (by omega), hI15, zpw_ne (by omega), hI14, z_set_ne (by omega), hI13, z_bgn_ne (by omega), hI12, z_set_ne (by omega), hI11, z_set_ne (by omega), hI10, z_set_ne (by omega), hI9, z_set_ne (by omega), hI8, z_set_ne (by omega), hI7, z_set_ne (by omega), hI6, z_set_ne (by omega)]
    have hJf : ∀ k, k ≠ 11 → k ≠ 12 → k ≠ 13 → k ≠ 14 → k ≠ 19 → I16 112 k = I 112 k := fun k g11 g12 g13 g14 g19 => by rw [hI16, z_set_nk (by omega), hI15, zpw_o (by omega) (by omega), hI14, z_set_nk (by omega), hI13, z_bgn_f (by omega), hI12, z_set_ne (by decide), hI11, z_set_ne (by decide), hI10, z_set_ne (by decide), hI9, z_set_ne (by decide), hI8, z_set_ne (by decide), hI7, z_set_ne (by decide), hI6, z_set_ne (by decide)]
    have e2 : zwl T.rv T.pr T.c x (x 22) (x 25) b = z_put hv 0 20 := by unfold zwl; rw [etb, nI_clamp (by omega), ← etb, ← z_alk_c (fun o => x (7 + o)) hb, ← hrv, hhv, zrvM, if_neg (by omega)]
    exact ⟨by rw [e2, ← z_put_mm _ _ _ (by decide)], _, _, rfl, ⟨fun c g112 g121 => hJ c g112 g121, fun k g11 g12 g13 g14 g19 => hJf k g11 g12 g13 g14 g19, fun c k g => z_rd_ne g⟩⟩
theorem q_X11_weightOf_113120 {n : Nat} {sl : Nat × Nat} {kd : Nat → Nat × Nat} {I : Nat → Nat → Int32} {L : Nat → Nat → Int64} {Rf : Nat → Nat → Option Nat} (d : Nat) {T : zT} (hM : zW n kd I Rf T) (hc7 : T.c ≤ 7) {H : Nat} {x : Nat → Int32} (hx : ∀ k, k < 26 → I 113 k = x k) (hxr : zxr T.c H x) (hH : H ≤ 2147483648) {b : Nat} (hb : b < T.c) {s : Nat} (hru : Rf 112 16 = some 120) (hs : I 112 18 = nI s) (hs4 : s ≤ 40) (hby : ∀ k, k < s → ∃ v, v < 256 ∧ I 120 k = (nI v).toInt8.toInt32) (hrv : ∀ th, zrvM (I 120) s th = T.rv th) (hs0 : 0 < s)  : eb_Q mX11_weightOf (d + 306) [.ref 112, .ref 113, .int (nI b)] (n, sl, kd, I, L, Rf) (zpS n sl kd I L Rf (zwl T.rv T.pr T.c x (x 22) (x 25) b)) := by
  refine ep_meth pn_X.2.2.2.2.2.2.2.2.2.2.2 (Nat.le_of_ble_eq_true rfl) ?_
  have hF := hM.F
  obtain ⟨tb, htb, etb⟩ := hxr.t b hb
  show eb_P _ _ 0 [(0, .ref 112), (1, .ref 113), (2, .int (nI b))] [] (n, sl, kd, I, L, Rf) _
  refine ep_aload_n (i := 1) dX11_weightOf_0 rfl rfl ?_
  refine ep_iload_n (i := 2) dX11_weightOf_1 rfl rfl ?_
  refine ep_iaN (k := b) dX11_weightOf_2 (hF.lt (by decide)) (hF.ka (by decide) rfl) (by omega) (by decide) ?_
  refine ep_topE (y := x b) (hx _ (by omega)) ?_
  refine ep_aload_n (i := 0) dX11_weightOf_3 rfl rfl ?_
  refine ep_getR dX11_weightOf_4 flX11_13 (hF.lt (by decide)) (hF.kc (by decide) rfl) (hF.pt 108 rfl) ?_
  refine ep_aload_n (i := 1) dX11_weightOf_7 rfl rfl ?_
  refine ep_bipush (v := 7) dX11_weightOf_8 (by decide) ?_
  refine ep_iload_n (i := 2) dX11_weightOf_10 rfl rfl ?_
  refine ep_iadd dX11_weightOf_11 ?_
  refine ep_topE (y := nI (7 + b)) (nI_add _ _) ?_
  refine ep_iaN (k := (7 + b)) dX11_weightOf_12 (hF.lt (by decide)) (hF.ka (by decide) rfl) (by omega) (by decide) ?_
  refine ep_topE (y := nI tb) ((hx _ (by omega)).trans etb) ?_
  refine ep_iaN (k := tb) dX11_weightOf_13 (hF.lt (by decide)) (hF.ka (by decide) rfl) (by omega) (by decide) ?_
  refine ep_topE (y := T.pr tb) (hM.pr tb htb) ?_
  refine ep_iadd dX11_weightOf_14 ?_
  refine ep_istore_n (l' := [(3, .int ((x b) + (T.pr tb))), (0, .ref 112), (1, .ref 113), (2, .int (nI b))]) dX11_weightOf_15 rfl (by decide) rfl ?_
  refine ep_aload_n (i := 0) dX11_weightOf_16 rfl rfl ?_
  refine ep_getI dX11_weightOf_17 flX11_189 (hF.lt (by decide)) (hF.kc (by decide) rfl) ?_
  refine ep_topE (y := nI s) hs ?_
  refine ep_if_le (tgt := 189) dX11_weightOf_20 (by decide) (fun c1 => absurd c1 (nI_nle hs0 (by omega))) (fun c1 => ?_)
  refine ep_iconst (v := 0) dX11_weightOf_23 (by decide) ?_
  refine ep_istore (l' := [(4, .int 0), (3, .int ((x b) + (T.pr tb))), (0, .ref 112), (1, .ref 113), (2, .int (nI b))]) dX11_weightOf_24 (by decide) rfl ?_
  refine ep_iconst (v := 0) dX11_weightOf_26 (by decide) ?_
  refine ep_istore (l' := [(5, .int 0), (4, .int 0), (3, .int ((x b) + (T.pr tb))), (0, .ref 112), (1, .ref 113), (2, .int (nI b))]) dX11_weightOf_27 (by decide) rfl ?_
  refine ep_eq (l2 := [(5, .int (nI 0)), (4, .int (z_alk (fun o => x (7 + o)) b 0)), (3, .int (x b + T.pr tb)), (0, .ref 112), (1, .ref 113), (2, .int (nI b))]) (σ2 := (n, sl, kd, I, L, Rf)) rfl (by rw [nI_0]; rfl) rfl rfl ?_
  refine ep_for T.c (fun k (a : Unit) => ([(5, .int (nI k)), (4, .int (z_alk (fun o => x (7 + o)) b k)), (3, .int (x b + T.pr tb)), (0, .ref 112), (1, .ref 113), (2, .int (nI b))], (n, sl, kd, I, L, Rf))) (fun k a => True) ?_ ?_ T.c 0 () (by omega) trivial
  · intro k a hk hinv ih
    show eb_P _ _ 29 [(5, .int (nI k)), (4, .int (z_alk (fun o => x (7 + o)) b k)), (3, .int (x b + T.pr tb)), (0, .ref 112), (1, .ref 113), (2, .int (nI b))] [] (n, sl, kd, I, L, Rf) _
    refine ep_iload (i := 5) dX11_weightOf_29 rfl ?_
    refine ep_aload_n (i := 0) dX11_weightOf_31 rfl rfl ?_
    refine ep_getI dX11_weightOf_32 flX11_95 (hF.lt (by decide)) (hF.kc (by decide) rfl) ?_
    refine ep_topE (y := nI T.c) hM.c ?_
    refine ep_icmp_ge (tgt := 76) dX11_weightOf_35 (by decide) (fun c2 => absurd c2 (nI_ge hk (by omega))) (fun c2 => ?_)
    refine ep_iload (i := 4) dX11_weightOf_38 rfl ?_
    refine ep_iload (i := 5) dX11_weightOf_40 rfl ?_
    refine ep_iload_n (i := 2) dX11_weightOf_42 rfl rfl ?_
    refine ep_icmp_eq (tgt := 66) dX11_weightOf_43 (by decide) (fun c3 => ?_) (fun c3 => ?_)
    · skip
      refine ep_iconst (v := 0) dX11_weightOf_66 (by decide) ?_
      refine ep_iadd dX11_weightOf_67 ?_
      refine ep_istore (l' := [(4, .int ((z_alk (fun o => x (7 + o)) b k) + 0)), (5, .int (nI k)), (3, .int (x b + T.pr tb)), (0, .ref 112), (1, .ref 113), (2, .int (nI b))]) dX11_weightOf_68 (by decide) rfl ?_
      refine ep_iinc (v := (nI (k + 1))) (l' := [(5, .int ((nI (k + 1)))), (4, .int ((z_alk (fun o => x (7 + o)) b k) + 0)), (3, .int (x b + T.pr tb)), (0, .ref 112), (1, .ref 113), (2, .int (nI b))]) dX11_weightOf_70 rfl (nI_1 _) (by decide) rfl ?_
      refine ep_goto (tgt := 29) dX11_weightOf_73 (by decide) ?_
      refine ep_eq (l2 := [(5, .int (nI (k + 1))), (4, .int (z_alk (fun o => x (7 + o)) b (k + 1))), (3, .int (x b + T.pr tb)), (0, .ref 112), (1, .ref 113), (2, .int (nI b))]) rfl ?_ rfl rfl (ih () trivial)
      rw [z_alk]
      first | rw [if_pos ⟨fun e => absurd (congrArg nI e) (by assumption), (by show x (7 + k) = x (7 + b); rw [etb]; exact Classical.not_not.mp (by assumption)) ⟩] | rw [if_neg (fun e => absurd (show x (7 + k) = nI tb from e.2.trans etb) (by assumption))] | rw [if_neg (fun e => e.1 (z_nIinj (by assumption) (by omega) (by omega)))]
    · skip
      refine ep_aload_n (i := 1) dX11_weightOf_46 rfl rfl ?_
      refine ep_bipush (v := 7) dX11_weightOf_47 (by decide) ?_
      refine ep_iload (i := 5) dX11_weightOf_49 rfl ?_
      refine ep_iadd dX11_weightOf_51 ?_
      refine ep_topE (y := nI (7 + k)) (nI_add _ _) ?_
      refine ep_iaN (k := (7 + k)) dX11_weightOf_52 (hF.lt (by decide)) (hF.ka (by decide) rfl) (by omega) (by decide) ?_
      refine ep_topE (y := x (7 + k)) (hx _ (by omega)) ?_
      refine ep_aload_n (i := 1) dX11_weightOf_53 rfl rfl ?_
      refine ep_bipush (v := 7) dX11_weightOf_54 (by decide) ?_
      refine ep_iload_n (i := 2) dX11_weightOf_56 rfl rfl ?_
      refine ep_iadd dX11_weightOf_57 ?_
      refine ep_topE (y := nI (7 + b)) (nI_add _ _) ?_
      refine ep_iaN (k := (7 + b)) dX11_weightOf_58 (hF.lt (by decide)) (hF.ka (by decide) rfl) (by omega) (by decide) ?_
      refine ep_topE (y := nI tb) ((hx _ (by omega)).trans etb) ?_
      refine ep_icmp_ne (tgt := 66) dX11_weightOf_59 (by decide) (fun c4 => ?_) (fun c4 => ?_)
      · skip
        refine ep_iconst (v := 0) dX11_weightOf_66 (by decide) ?_
        refine ep_iadd dX11_weightOf_67 ?_
        refine ep_istore (l' := [(4, .int ((z_alk (fun o => x (7 + o)) b k) + 0)), (5, .int (nI k)), (3, .int (x b + T.pr tb)), (0, .ref 112), (1, .ref 113), (2, .int (nI b))]) dX11_weightOf_68 (by decide) rfl ?_
        refine ep_iinc (v := (nI (k + 1))) (l' := [(5, .int ((nI (k + 1)))), (4, .int ((z_alk (fun o => x (7 + o)) b k) + 0)), (3, .int (x b + T.pr tb)), (0, .ref 112), (1, .ref 113), (2, .int (nI b))]) dX11_weightOf_70 rfl (nI_1 _) (by decide) rfl ?_
        refine ep_goto (tgt := 29) dX11_weightOf_73 (by decide) ?_
        refine ep_eq (l2 := [(5, .int (nI (k + 1))), (4, .int (z_alk (fun o => x (7 + o)) b (k + 1))), (3, .int (x b + T.pr tb)), (0, .ref 112), (1, .ref 113), (2, .int (nI b))]) rfl ?_ rfl rfl (ih () trivial)
        rw [z_alk]
        first | rw [if_pos ⟨fun e => absurd (congrArg nI e) (by assumption), (by show x (7 + k) = x (7 + b); rw [etb]; exact Classical.not_not.mp (by assumption)) ⟩] | rw [if_neg (fun e => absurd (show x (7 + k) = nI tb from e.2.trans etb) (by assumption))] | rw [if_neg (fun e => e.1 (z_nIinj (by assumption) (by omega) (by omega)))]
      · skip
        refine ep_iconst (v := 1) dX11_weightOf_62 (by decide) ?_
        refine ep_goto (tgt := 67) dX11_weightOf_63 (by decide) ?_
        refine ep_iadd dX11_weightOf_67 ?_
        refine ep_istore (l' := [(4, .int ((z_alk (fun o => x (7 + o)) b k) + 1)), (5, .int (nI k)), (3, .int (x b + T.pr tb)), (0, .ref 112), (1, .ref 113), (2, .int (nI b))]) dX11_weightOf_68 (by decide) rfl ?_
        refine ep_iinc (v := (nI (k + 1))) (l' := [(5, .int ((nI (k + 1)))), (4, .int ((z_alk (fun o => x (7 + o)) b k) + 1)), (3, .int (x b + T.pr tb)), (0, .ref 112), (1, .ref 113), (2, .int (nI b))]) dX11_weightOf_70 rfl (nI_1 _) (by decide) rfl ?_
        refine ep_goto (tgt := 29) dX11_weightOf_73 (by decide) ?_
        refine ep_eq (l2 := [(5, .int (nI (k + 1))), (4, .int (z_alk (fun o => x (7 + o)) b (k + 1))), (3, .int (x b + T.pr tb)), (0, .ref 112), (1, .ref 113), (2, .int (nI b))]) rfl ?_ rfl rfl (ih () trivial)
        rw [z_alk]
        first | rw [if_pos ⟨fun e => absurd (congrArg nI e) (by assumption), (by show x (7 + k) = x (7 + b); rw [etb]; exact Classical.not_not.mp (by assumption)) ⟩] | rw [if_neg (fun e => absurd (show x (7 + k) = nI tb from e.2.trans etb) (by assumption))] | rw [if_neg (fun e => e.1 (z_nIinj (by assumption) (by omega) (by omega)))]
  · intro a hinv
    show eb_P _ _ 29 [(5, .int (nI T.c)), (4, .int (z_alk (fun o => x (7 + o)) b T.c)), (3, .int (x b + T.pr tb)), (0, .ref 112), (1, .ref 113), (2, .int (nI b))] [] (n, sl, kd, I, L, Rf) _
    refine ep_iload (i := 5) dX11_weightOf_29 rfl ?_
    refine ep_aload_n (i := 0) dX11_weightOf_31 rfl rfl ?_
    refine ep_getI dX11_weightOf_32 flX11_95 (hF.lt (by decide)) (hF.kc (by decide) rfl) ?_
    refine ep_topE (y := nI T.c) hM.c ?_
    refine ep_icmp_ge (tgt := 76) dX11_weightOf_35 (by decide) (fun c5 => ?_) (fun c5 => absurd (nI_le (Nat.le_refl _) (by omega)) c5)
    refine ep_aload_n (i := 0) dX11_weightOf_76 rfl rfl ?_
    refine ep_getR dX11_weightOf_77 flX11_40 (hF.lt (by decide)) (hF.kc (by decide) rfl) (hF.pt 114 rfl) ?_
    refine ep_iconst (v := 0) dX11_weightOf_80 (by decide) ?_
    refine ep_aload_n (i := 1) dX11_weightOf_81 rfl rfl ?_
    refine ep_iload_n (i := 2) dX11_weightOf_82 rfl rfl ?_
    refine ep_iaN (k := b) dX11_weightOf_83 (hF.lt (by decide)) (hF.ka (by decide) rfl) (by omega) (by decide) ?_
    refine ep_topE (y := x b) (hx _ (by omega)) ?_
    refine ep_isN (k := 0) dX11_weightOf_84 (hF.lt (by decide)) (hF.lx (by decide)) (hF.ka (by decide) rfl) (by omega) (by decide) ?_
    refine ep_nmI (fun I6 hI6 => ?_)
    refine ep_aload_n (i := 0) dX11_weightOf_85 rfl rfl ?_
    refine ep_getR dX11_weightOf_86 flX11_40 (hF.lt (by decide)) (hF.kc (by decide) rfl) (hF.pt 114 rfl) ?_
    refine ep_iconst (v := 1) dX11_weightOf_89 (by decide) ?_
    refine ep_aload_n (i := 0) dX11_weightOf_90 rfl rfl ?_
    refine ep_getR dX11_weightOf_91 flX11_13 (hF.lt (by decide)) (hF.kc (by decide) rfl) (hF.pt 108 rfl) ?_
    refine ep_aload_n (i := 1) dX11_weightOf_94 rfl rfl ?_
    refine ep_bipush (v := 7) dX11_weightOf_95 (by decide) ?_
    refine ep_iload_n (i := 2) dX11_weightOf_97 rfl rfl ?_
    refine ep_iadd dX11_weightOf_98 ?_
    refine ep_topE (y := nI (7 + b)) (nI_add _ _) ?_
    refine ep_iaN (k := (7 + b)) dX11_weightOf_99 (hF.lt (by decide)) (hF.ka (by decide) rfl) (by omega) (by decide) ?_
    refine ep_topE (y := I 113 (7 + b)) (by rw [hI6, z_set_ne (by decide)]) ?_
    refine ep_topE (y := nI tb) ((hx _ (by omega)).trans etb) ?_
    refine ep_iaN (k := tb) dX11_weightOf_100 (hF.lt (by decide)) (hF.ka (by decide) rfl) (by omega) (by decide) ?_
    refine ep_topE (y := I 114 tb) (by rw [hI6, z_set_ne (by decide)]) ?_
    refine ep_topE (y := T.pr tb) (hM.pr tb htb) ?_
    refine ep_isN (k := 1) dX11_weightOf_101 (hF.lt (by decide)) (hF.lx (by decide)) (hF.ka (by decide) rfl) (by omega) (by decide) ?_
    refine ep_nmI (fun I7 hI7 => ?_)
    refine ep_aload_n (i := 0) dX11_weightOf_102 rfl rfl ?_
    refine ep_getR dX11_weightOf_103 flX11_40 (hF.lt (by decide)) (hF.kc (by decide) rfl) (hF.pt 114 rfl) ?_
    refine ep_iconst (v := 2) dX11_weightOf_106 (by decide) ?_
    refine ep_iload (i := 4) dX11_weightOf_107 rfl ?_
    refine ep_isN (k := 2) dX11_weightOf_109 (hF.lt (by decide)) (hF.lx (by decide)) (hF.ka (by decide) rfl) (by omega) (by decide) ?_
    refine ep_nmI (fun I8 hI8 => ?_)
    refine ep_aload_n (i := 0) dX11_weightOf_110 rfl rfl ?_
    refine ep_getR dX11_weightOf_111 flX11_40 (hF.lt (by decide)) (hF.kc (by decide) rfl) (hF.pt 114 rfl) ?_
    refine ep_iconst (v := 3) dX11_weightOf_114 (by decide) ?_
    refine ep_aload_n (i := 1) dX11_weightOf_115 rfl rfl ?_
    refine ep_bipush (v := 14) dX11_weightOf_116 (by decide) ?_
    refine ep_iload_n (i := 2) dX11_weightOf_118 rfl rfl ?_
    refine ep_iadd dX11_weightOf_119 ?_
    refine ep_topE (y := nI (14 + b)) (nI_add _ _) ?_
    refine ep_iaN (k := (14 + b)) dX11_weightOf_120 (hF.lt (by decide)) (hF.ka (by decide) rfl) (by omega) (by decide) ?_
    refine ep_topE (y := I 113 (14 + b)) (by rw [hI8, z_set_ne (by decide), hI7, z_set_ne (by decide), hI6, z_set_ne (by decide)]) ?_
    refine ep_topE (y := x (14 + b)) (hx _ (by omega)) ?_
    refine ep_abs dX11_weightOf_121 xmX11_192 (Nat.le_of_ble_eq_true rfl) ?_
    refine ep_topE (y := z_ab (x (14 + b))) rfl ?_
    refine ep_isN (k := 3) dX11_weightOf_124 (hF.lt (by decide)) (hF.lx (by decide)) (hF.ka (by decide) rfl) (by omega) (by decide) ?_
    refine ep_nmI (fun I9 hI9 => ?_)
    refine ep_aload_n (i := 0) dX11_weightOf_125 rfl rfl ?_
    refine ep_getR dX11_weightOf_126 flX11_40 (hF.lt (by decide)) (hF.kc (by decide) rfl) (hF.pt 114 rfl) ?_
    refine ep_iconst (v := 4) dX11_weightOf_129 (by decide) ?_
    refine ep_aload_n (i := 1) dX11_weightOf_130 rfl rfl ?_
    refine ep_bipush (v := 22) dX11_weightOf_131 (by decide) ?_
    refine ep_iaN (k := 22) dX11_weightOf_133 (hF.lt (by decide)) (hF.ka (by decide) rfl) (by omega) (by decide) ?_
    refine ep_topE (y := I 113 22) (by rw [hI9, z_set_ne (by decide), hI8, z_set_ne (by decide), hI7, z_set_ne (by decide), hI6, z_set_ne (by decide)]) ?_
    refine ep_topE (y := x 22) (hx _ (by omega)) ?_
    refine ep_abs dX11_weightOf_134 xmX11_192 (Nat.le_of_ble_eq_true rfl) ?_
    refine ep_topE (y := z_ab (x 22)) rfl ?_
    refine ep_isN (k := 4) dX11_weightOf_137 (hF.lt (by decide)) (hF.lx (by decide)) (hF.ka (by decide) rfl) (by omega) (by decide) ?_
    refine ep_nmI (fun I10 hI10 => ?_)
    refine ep_aload_n (i := 0) dX11_weightOf_138 rfl rfl ?_
    refine ep_getR dX11_weightOf_139 flX11_40 (hF.lt (by decide)) (hF.kc (by decide) rfl) (hF.pt 114 rfl) ?_
    refine ep_iconst (v := 5) dX11_weightOf_142 (by decide) ?_
    refine ep_iload_n (i := 2) dX11_weightOf_143 rfl rfl ?_
    refine ep_isN (k := 5) dX11_weightOf_144 (hF.lt (by decide)) (hF.lx (by decide)) (hF.ka (by decide) rfl) (by omega) (by decide) ?_
    refine ep_nmI (fun I11 hI11 => ?_)
    refine ep_aload_n (i := 0) dX11_weightOf_145 rfl rfl ?_
    refine ep_getR dX11_weightOf_146 flX11_40 (hF.lt (by decide)) (hF.kc (by decide) rfl) (hF.pt 114 rfl) ?_
    refine ep_bipush (v := 6) dX11_weightOf_149 (by decide) ?_
    refine ep_aload_n (i := 1) dX11_weightOf_151 rfl rfl ?_
    refine ep_bipush (v := 25) dX11_weightOf_152 (by decide) ?_
    refine ep_iaN (k := 25) dX11_weightOf_154 (hF.lt (by decide)) (hF.ka (by decide) rfl) (by omega) (by decide) ?_
    refine ep_topE (y := I 113 25) (by rw [hI11, z_set_ne (by decide), hI10, z_set_ne (by decide), hI9, z_set_ne (by decide), hI8, z_set_ne (by decide), hI7, z_set_ne (by decide), hI6, z_set_ne (by decide)]) ?_
    refine ep_topE (y := x 25) (hx _ (by omega)) ?_
    refine ep_bipush (v := 7) dX11_weightOf_155 (by decide) ?_
    refine ep_irem dX11_weightOf_157 (by decide) ?_
    refine ep_isN (k := 6) dX11_weightOf_158 (hF.lt (by decide)) (hF.lx (by decide)) (hF.ka (by decide) rfl) (by omega) (by decide) ?_
    refine ep_nmI (fun I12 hI12 => ?_)
    refine ep_aload_n (i := 0) dX11_weightOf_159 rfl rfl ?_
    refine ep_aload_n (i := 0) dX11_weightOf_160 rfl rfl ?_
    refine ep_getR dX11_weightOf_161 flX11_34 (hF.lt (by decide)) (hF.kc (by decide) rfl) hru ?_
    refine ep_aload_n (i := 0) dX11_weightOf_164 rfl rfl ?_
    refine ep_getI dX11_weightOf_165 flX11_189 (hF.lt (by decide)) (hF.kc (by decide) rfl) ?_
    refine ep_topE (y := I 112 18) (by rw [hI12, z_set_ne (by decide), hI11, z_set_ne (by decide), hI10, z_set_ne (by decide), hI9, z_set_ne (by decide), hI8, z_set_ne (by decide), hI7, z_set_ne (by decide), hI6, z_set_ne (by decide)]) ?_
    refine ep_topE (y := nI s) hs ?_
    refine ep_bipush (v := 40) dX11_weightOf_168 (by decide) ?_
    refine ep_callV (M1 := mX11_begin) (rest := []) dX11_weightOf_170 mlX11_120 mvX11_begin rfl (hF.lt (by decide)) (hF.kc (by decide) rfl) (Nat.le_of_ble_eq_true rfl) rfl (q_X11_begin (I := I12) (d + 305) hF (hF.lt (by decide)) (nI s) 40) (eb_vok rfl) ?_
    rintro _ _ ⟨rfl, rfl⟩
    show eb_P _ _ 173 [(5, .int (nI T.c)), (4, .int (z_alk (fun o => x (7 + o)) b T.c)), (3, .int (x b + T.pr tb)), (0, .ref 112), (1, .ref 113), (2, .int (nI b))] [] (n, sl, kd, z_bgn I12 (nI s) 40, L, z_rd Rf 120) _
    refine ep_nmI (fun I13 hI13 => ?_)
    refine ep_aload_n (i := 0) dX11_weightOf_173 rfl rfl ?_
    refine ep_iconst (v := 1) dX11_weightOf_174 (by decide) ?_
    refine ep_pI dX11_weightOf_175 plX11_182 (hF.lt (by decide)) (hF.lx (by decide)) (hF.kc (by decide) rfl) rfl rfl ?_
    refine ep_nmI (fun I14 hI14 => ?_)
    refine ep_aload_n (i := 0) dX11_weightOf_178 rfl rfl ?_
    refine ep_iconst (v := 0) dX11_weightOf_179 (by decide) ?_
    have hvv := (z_bgn_v (I := I12) (l := nI s) (tp := 40))
    have hP : zpc n kd I14 (z_rd Rf 120) 120 40 s 40 (I 120) := ⟨hF.tr (fun c k g => z_rd_ne g), z_rd_at, hF.ka (by decide) rfl, ⟨hs4, by decide⟩, ⟨by decide, by decide⟩, (by rw [hI14, z_set_nk (by decide), hI13]; exact hvv.1), ⟨(by rw [hI14, z_set_nk (by decide), hI13]; exact hvv.2.1), by decide⟩, (by rw [hI14, z_set_ne (by decide), hI13, z_bgn_ne (by decide), hI12, z_set_ne (by decide), hI11, z_set_ne (by decide), hI10, z_set_ne (by decide), hI9, z_set_ne (by decide), hI8, z_set_ne (by decide), hI7, z_set_ne (by decide), hI6, z_set_ne (by decide)]), hby⟩
    have ha0 : I14 121 0 = z_t7 (x b) (T.pr tb) (z_alk (fun o => x (7 + o)) b T.c) (z_ab (x (14 + b))) (z_ab (x 22)) (nI b) (x 25 - x 25 / 7 * 7) 0 := by rw [hI14, z_set_ne (by decide), hI13, z_bgn_ne (by decide), hI12, z_set_nk (by decide), hI11, z_set_nk (by decide), hI10, z_set_nk (by decide), hI9, z_set_nk (by decide), hI8, z_set_nk (by decide), hI7, z_set_nk (by decide), hI6, z_set_at]; rfl
    have ha1 : I14 121 1 = z_t7 (x b) (T.pr tb) (z_alk (fun o => x (7 + o)) b T.c) (z_ab (x (14 + b))) (z_ab (x 22)) (nI b) (x 25 - x 25 / 7 * 7) 1 := by rw [hI14, z_set_ne (by decide), hI13, z_bgn_ne (by decide), hI12, z_set_nk (by decide), hI11, z_set_nk (by decide), hI10, z_set_nk (by decide), hI9, z_set_nk (by decide), hI8, z_set_nk (by decide), hI7, z_set_at]; rfl
    have ha2 : I14 121 2 = z_t7 (x b) (T.pr tb) (z_alk (fun o => x (7 + o)) b T.c) (z_ab (x (14 + b))) (z_ab (x 22)) (nI b) (x 25 - x 25 / 7 * 7) 2 := by rw [hI14, z_set_ne (by decide), hI13, z_bgn_ne (by decide), hI12, z_set_nk (by decide), hI11, z_set_nk (by decide), hI10, z_set_nk (by decide), hI9, z_set_nk (by decide), hI8, z_set_at]; rfl
    have ha3 : I14 121 3 = z_t7 (x b) (T.pr tb) (z_alk (fun o => x (7 + o)) b T.c) (z_ab (x (14 + b))) (z_ab (x 22)) (nI b) (x 25 - x 25 / 7 * 7) 3 := by rw [hI14, z_set_ne (by decide), hI13, z_bgn_ne (by decide), hI12, z_set_nk (by decide), hI11, z_set_nk (by decide), hI10, z_set_nk (by decide), hI9, z_set_at]; rfl
    have ha4 : I14 121 4 = z_t7 (x b) (T.pr tb) (z_alk (fun o => x (7 + o)) b T.c) (z_ab (x (14 + b))) (z_ab (x 22)) (nI b) (x 25 - x 25 / 7 * 7) 4 := by rw [hI14, z_set_ne (by decide), hI13, z_bgn_ne (by decide), hI12, z_set_nk (by decide), hI11, z_set_nk (by decide), hI10, z_set_at]; rfl
    have ha5 : I14 121 5 = z_t7 (x b) (T.pr tb) (z_alk (fun o => x (7 + o)) b T.c) (z_ab (x (14 + b))) (z_ab (x 22)) (nI b) (x 25 - x 25 / 7 * 7) 5 := by rw [hI14, z_set_ne (by decide), hI13, z_bgn_ne (by decide), hI12, z_set_nk (by decide), hI11, z_set_at]; rfl
    have ha6 : I14 121 6 = z_t7 (x b) (T.pr tb) (z_alk (fun o => x (7 + o)) b T.c) (z_ab (x (14 + b))) (z_ab (x 22)) (nI b) (x 25 - x 25 / 7 * 7) 6 := by rw [hI14, z_set_ne (by decide), hI13, z_bgn_ne (by decide), hI12, z_set_at]; rfl
    have hA : (I14 112 19 = 1 ∧ ∀ q, q < 7 → I14 121 q = z_t7 (x b) (T.pr tb) (z_alk (fun o => x (7 + o)) b T.c) (z_ab (x (14 + b))) (z_ab (x 22)) (nI b) (x 25 - x 25 / 7 * 7) q) ∨ (I14 112 19 = 0 ∧ ∀ q, z_t7 (x b) (T.pr tb) (z_alk (fun o => x (7 + o)) b T.c) (z_ab (x (14 + b))) (z_ab (x 22)) (nI b) (x 25 - x 25 / 7 * 7) q = 0) := Or.inl ⟨by rw [hI14, z_set_at], fun q hq => by rcases (show q = 0 ∨ q = 1 ∨ q = 2 ∨ q = 3 ∨ q = 4 ∨ q = 5 ∨ q = 6 by omega) with rfl | rfl | rfl | rfl | rfl | rfl | rfl <;> assumption⟩
    refine ep_callV (M1 := mX11_held) (rest := []) dX11_weightOf_180 mlX11_169 mvX11_held rfl (hF.lt (by decide)) (hF.kc (by decide) rfl) (Nat.le_of_ble_eq_true rfl) rfl (q_X11_held0 hP hA (by rw [hI14, z_set_nk (by decide), hI13]; exact hvv.2.2.1) (by rw [hI14, z_set_nk (by decide), hI13]; exact hvv.2.2.2) d) (fun _ _ g => Or.inl (by rw [g.1])) ?_
    rintro _ _ ⟨rfl, rfl⟩
    show eb_P _ _ 183 [(5, .int (nI T.c)), (4, .int (z_alk (fun o => x (7 + o)) b T.c)), (3, .int (x b + T.pr tb)), (0, .ref 112), (1, .ref 113), (2, .int (nI b))] (.int (zp (zhr (I 120) s 40) (z_t7 (x b) (T.pr tb) (z_alk (fun o => x (7 + o)) b T.c) (z_ab (x (14 + b))) (z_ab (x 22)) (nI b) (x 25 - x 25 / 7 * 7)) 300 0 0 0 (0, -1)).1 :: []) (n, sl, kd, zpw I14 (zp (zhr (I 120) s 40) (z_t7 (x b) (T.pr tb) (z_alk (fun o => x (7 + o)) b T.c) (z_ab (x (14 + b))) (z_ab (x 22)) (nI b) (x 25 - x 25 / 7 * 7)) 300 0 0 0 (0, -1)).2, L, z_rd Rf 120) _
    refine ep_nmI (fun I15 hI15 => ?_)
    refine ep_topi (fun hv hhv => ?_)
    refine ep_istore_n (l' := [(3, .int hv), (5, .int (nI T.c)), (4, .int (z_alk (fun o => x (7 + o)) b T.c)), (0, .ref 112), (1, .ref 113), (2, .int (nI b))]) dX11_weightOf_183 rfl (by decide) rfl ?_
    refine ep_aload_n (i := 0) dX11_weightOf_184 rfl rfl ?_
    refine ep_iconst (v := 0) dX11_weightOf_185 (by decide) ?_
    refine ep_pI dX11_weightOf_186 plX11_182 (hF.lt (by decide)) (hF.lx (by decide)) (hF.kc (by decide) rfl) rfl rfl ?_
    refine ep_nmI (fun I16 hI16 => ?_)
    refine ep_iconst (v := 0) dX11_weightOf_189 (by decide) ?_
    refine ep_bipush (v := 20) dX11_weightOf_190 (by decide) ?_
    refine ep_iload_n (i := 3) dX11_weightOf_192 rfl rfl ?_
    refine ep_min dX11_weightOf_193 xmX11_197 (Nat.le_of_ble_eq_true rfl) ?_
    refine ep_max dX11_weightOf_196 xmX11_201 (Nat.le_of_ble_eq_true rfl) ?_
    refine ep_iret dX11_weightOf_199 rfl rfl ?_
    have hJ : ∀ c, c ≠ 112 → c ≠ 121 → I16 c = I c := fun c g112 g121 => by rw [hI16, z_set_ne (by omega), hI15, zpw_ne (by omega), hI14, z_set_ne (by omega), hI13, z_bgn_ne (by omega), hI12, z_set_ne (by omega), hI11, z_set_ne (by omega), hI10, z_set_ne (by omega), hI9, z_set_ne (by omega), hI8, z_set_ne (by omega), hI7, z_set_ne (by omega), hI6, z_set_ne (by omega)]
    have hJf : ∀ k, k ≠ 11 → k ≠ 12 → k ≠ 13 → k ≠ 14 → k ≠ 19 → I16 112 k = I 112 k := fun k g11 g12 g13 g14 g19 => by rw [hI16, z_set_nk (by omega), hI15, zpw_o (by omega) (by omega), hI14, z_set_nk (by omega), hI13, z_bgn_f (by omega), hI12, z_set_ne (by decide), hI11, z_set_ne (by decide), hI10, z_set_ne (by decide), hI9, z_set_ne (by decide), hI8, z_set_ne (by decide), hI7, z_set_ne (by decide), hI6, z_set_ne (by decide)]
    have e2 : zwl T.rv T.pr T.c x (x 22) (x 25) b = z_put hv 0 20 := by unfold zwl; rw [etb, nI_clamp (by omega), ← etb, ← z_alk_c (fun o => x (7 + o)) hb, ← hrv, hhv, zrvM, if_neg (by omega)]
    exact ⟨by rw [e2, ← z_put_mm _ _ _ (by decide)], _, _, rfl, ⟨fun c g112 g121 => hJ c g112 g121, fun k g11 g12 g13 g14 g19 => hJf k g11 g12 g13 g14 g19, fun c k g => z_rd_ne g⟩⟩
theorem q_X11_weightOf_124119 {n : Nat} {sl : Nat × Nat} {kd : Nat → Nat × Nat} {I : Nat → Nat → Int32} {L : Nat → Nat → Int64} {Rf : Nat → Nat → Option Nat} (d : Nat) {T : zT} (hM : zW n kd I Rf T) (hc7 : T.c ≤ 7) {H : Nat} {x : Nat → Int32} (hx : ∀ k, k < 26 → I 124 k = x k) (hxr : zxr T.c H x) (hH : H ≤ 2147483648) {b : Nat} (hb : b < T.c) {s : Nat} (hru : Rf 112 16 = some 119) (hs : I 112 18 = nI s) (hs4 : s ≤ 40) (hby : ∀ k, k < s → ∃ v, v < 256 ∧ I 119 k = (nI v).toInt8.toInt32) (hrv : ∀ th, zrvM (I 119) s th = T.rv th) (hs0 : 0 < s)  : eb_Q mX11_weightOf (d + 306) [.ref 112, .ref 124, .int (nI b)] (n, sl, kd, I, L, Rf) (zpS n sl kd I L Rf (zwl T.rv T.pr T.c x (x 22) (x 25) b)) := by
  refine ep_meth pn_X.2.2.2.2.2.2.2.2.2.2.2 (Nat.le_of_ble_eq_true rfl) ?_
  have hF := hM.F
  obtain ⟨tb, htb, etb⟩ := hxr.t b hb
  show eb_P _ _ 0 [(0, .ref 112), (1, .ref 124), (2, .int (nI b))] [] (n, sl, kd, I, L, Rf) _
  refine ep_aload_n (i := 1) dX11_weightOf_0 rfl rfl ?_
  refine ep_iload_n (i := 2) dX11_weightOf_1 rfl rfl ?_
  refine ep_iaN (k := b) dX11_weightOf_2 (hF.lt (by decide)) (hF.ka (by decide) rfl) (by omega) (by decide) ?_
  refine ep_topE (y := x b) (hx _ (by omega)) ?_
  refine ep_aload_n (i := 0) dX11_weightOf_3 rfl rfl ?_
  refine ep_getR dX11_weightOf_4 flX11_13 (hF.lt (by decide)) (hF.kc (by decide) rfl) (hF.pt 108 rfl) ?_
  refine ep_aload_n (i := 1) dX11_weightOf_7 rfl rfl ?_
  refine ep_bipush (v := 7) dX11_weightOf_8 (by decide) ?_
  refine ep_iload_n (i := 2) dX11_weightOf_10 rfl rfl ?_
  refine ep_iadd dX11_weightOf_11 ?_
  refine ep_topE (y := nI (7 + b)) (nI_add _ _) ?_
  refine ep_iaN (k := (7 + b)) dX11_weightOf_12 (hF.lt (by decide)) (hF.ka (by decide) rfl) (by omega) (by decide) ?_
  refine ep_topE (y := nI tb) ((hx _ (by omega)).trans etb) ?_
  refine ep_iaN (k := tb) dX11_weightOf_13 (hF.lt (by decide)) (hF.ka (by decide) rfl) (by omega) (by decide) ?_
  refine ep_topE (y := T.pr tb) (hM.pr tb htb) ?_
  refine ep_iadd dX11_weightOf_14 ?_
  refine ep_istore_n (l' := [(3, .int ((x b) + (T.pr tb))), (0, .ref 112), (1, .ref 124), (2, .int (nI b))]) dX11_weightOf_15 rfl (by decide) rfl ?_
  refine ep_aload_n (i := 0) dX11_weightOf_16 rfl rfl ?_
  refine ep_getI dX11_weightOf_17 flX11_189 (hF.lt (by decide)) (hF.kc (by decide) rfl) ?_
  refine ep_topE (y := nI s) hs ?_
  refine ep_if_le (tgt := 189) dX11_weightOf_20 (by decide) (fun c1 => absurd c1 (nI_nle hs0 (by omega))) (fun c1 => ?_)
  refine ep_iconst (v := 0) dX11_weightOf_23 (by decide) ?_
  refine ep_istore (l' := [(4, .int 0), (3, .int ((x b) + (T.pr tb))), (0, .ref 112), (1, .ref 124), (2, .int (nI b))]) dX11_weightOf_24 (by decide) rfl ?_
  refine ep_iconst (v := 0) dX11_weightOf_26 (by decide) ?_
  refine ep_istore (l' := [(5, .int 0), (4, .int 0), (3, .int ((x b) + (T.pr tb))), (0, .ref 112), (1, .ref 124), (2, .int (nI b))]) dX11_weightOf_27 (by decide) rfl ?_
  refine ep_eq (l2 := [(5, .int (nI 0)), (4, .int (z_alk (fun o => x (7 + o)) b 0)), (3, .int (x b + T.pr tb)), (0, .ref 112), (1, .ref 124), (2, .int (nI b))]) (σ2 := (n, sl, kd, I, L, Rf)) rfl (by rw [nI_0]; rfl) rfl rfl ?_
  refine ep_for T.c (fun k (a : Unit) => ([(5, .int (nI k)), (4, .int (z_alk (fun o => x (7 + o)) b k)), (3, .int (x b + T.pr tb)), (0, .ref 112), (1, .ref 124), (2, .int (nI b))], (n, sl, kd, I, L, Rf))) (fun k a => True) ?_ ?_ T.c 0 () (by omega) trivial
  · intro k a hk hinv ih
    show eb_P _ _ 29 [(5, .int (nI k)), (4, .int (z_alk (fun o => x (7 + o)) b k)), (3, .int (x b + T.pr tb)), (0, .ref 112), (1, .ref 124), (2, .int (nI b))] [] (n, sl, kd, I, L, Rf) _
    refine ep_iload (i := 5) dX11_weightOf_29 rfl ?_
    refine ep_aload_n (i := 0) dX11_weightOf_31 rfl rfl ?_
    refine ep_getI dX11_weightOf_32 flX11_95 (hF.lt (by decide)) (hF.kc (by decide) rfl) ?_
    refine ep_topE (y := nI T.c) hM.c ?_
    refine ep_icmp_ge (tgt := 76) dX11_weightOf_35 (by decide) (fun c2 => absurd c2 (nI_ge hk (by omega))) (fun c2 => ?_)
    refine ep_iload (i := 4) dX11_weightOf_38 rfl ?_
    refine ep_iload (i := 5) dX11_weightOf_40 rfl ?_
    refine ep_iload_n (i := 2) dX11_weightOf_42 rfl rfl ?_
    refine ep_icmp_eq (tgt := 66) dX11_weightOf_43 (by decide) (fun c3 => ?_) (fun c3 => ?_)
    · skip
      refine ep_iconst (v := 0) dX11_weightOf_66 (by decide) ?_
      refine ep_iadd dX11_weightOf_67 ?_
      refine ep_istore (l' := [(4, .int ((z_alk (fun o => x (7 + o)) b k) + 0)), (5, .int (nI k)), (3, .int (x b + T.pr tb)), (0, .ref 112), (1, .ref 124), (2, .int (nI b))]) dX11_weightOf_68 (by decide) rfl ?_
      refine ep_iinc (v := (nI (k + 1))) (l' := [(5, .int ((nI (k + 1)))), (4, .int ((z_alk (fun o => x (7 + o)) b k) + 0)), (3, .int (x b + T.pr tb)), (0, .ref 112), (1, .ref 124), (2, .int (nI b))]) dX11_weightOf_70 rfl (nI_1 _) (by decide) rfl ?_
      refine ep_goto (tgt := 29) dX11_weightOf_73 (by decide) ?_
      refine ep_eq (l2 := [(5, .int (nI (k + 1))), (4, .int (z_alk (fun o => x (7 + o)) b (k + 1))), (3, .int (x b + T.pr tb)), (0, .ref 112), (1, .ref 124), (2, .int (nI b))]) rfl ?_ rfl rfl (ih () trivial)
      rw [z_alk]
      first | rw [if_pos ⟨fun e => absurd (congrArg nI e) (by assumption), (by show x (7 + k) = x (7 + b); rw [etb]; exact Classical.not_not.mp (by assumption)) ⟩] | rw [if_neg (fun e => absurd (show x (7 + k) = nI tb from e.2.trans etb) (by assumption))] | rw [if_neg (fun e => e.1 (z_nIinj (by assumption) (by omega) (by omega)))]
    · skip
      refine ep_aload_n (i := 1) dX11_weightOf_46 rfl rfl ?_
      refine ep_bipush (v := 7) dX11_weightOf_47 (by decide) ?_
      refine ep_iload (i := 5) dX11_weightOf_49 rfl ?_
      refine ep_iadd dX11_weightOf_51 ?_
      refine ep_topE (y := nI (7 + k)) (nI_add _ _) ?_
      refine ep_iaN (k := (7 + k)) dX11_weightOf_52 (hF.lt (by decide)) (hF.ka (by decide) rfl) (by omega) (by decide) ?_
      refine ep_topE (y := x (7 + k)) (hx _ (by omega)) ?_
      refine ep_aload_n (i := 1) dX11_weightOf_53 rfl rfl ?_
      refine ep_bipush (v := 7) dX11_weightOf_54 (by decide) ?_
      refine ep_iload_n (i := 2) dX11_weightOf_56 rfl rfl ?_
      refine ep_iadd dX11_weightOf_57 ?_
      refine ep_topE (y := nI (7 + b)) (nI_add _ _) ?_
      refine ep_iaN (k := (7 + b)) dX11_weightOf_58 (hF.lt (by decide)) (hF.ka (by decide) rfl) (by omega) (by decide) ?_
      refine ep_topE (y := nI tb) ((hx _ (by omega)).trans etb) ?_
      refine ep_icmp_ne (tgt := 66) dX11_weightOf_59 (by decide) (fun c4 => ?_) (fun c4 => ?_)
      · skip
        refine ep_iconst (v := 0) dX11_weightOf_66 (by decide) ?_
        refine ep_iadd dX11_weightOf_67 ?_
        refine ep_istore (l' := [(4, .int ((z_alk (fun o => x (7 + o)) b k) + 0)), (5, .int (nI k)), (3, .int (x b + T.pr tb)), (0, .ref 112), (1, .ref 124), (2, .int (nI b))]) dX11_weightOf_68 (by decide) rfl ?_
        refine ep_iinc (v := (nI (k + 1))) (l' := [(5, .int ((nI (k + 1)))), (4, .int ((z_alk (fun o => x (7 + o)) b k) + 0)), (3, .int (x b + T.pr tb)), (0, .ref 112), (1, .ref 124), (2, .int (nI b))]) dX11_weightOf_70 rfl (nI_1 _) (by decide) rfl ?_
        refine ep_goto (tgt := 29) dX11_weightOf_73 (by decide) ?_
        refine ep_eq (l2 := [(5, .int (nI (k + 1))), (4, .int (z_alk (fun o => x (7 + o)) b (k + 1))), (3, .int (x b + T.pr tb)), (0, .ref 112), (1, .ref 124), (2, .int (nI b))]) rfl ?_ rfl rfl (ih () trivial)
        rw [z_alk]
        first | rw [if_pos ⟨fun e => absurd (congrArg nI e) (by assumption), (by show x (7 + k) = x (7 + b); rw [etb]; exact Classical.not_not.mp (by assumption)) ⟩] | rw [if_neg (fun e => absurd (show x (7 + k) = nI tb from e.2.trans etb) (by assumption))] | rw [if_neg (fun e => e.1 (z_nIinj (by assumption) (by omega) (by omega)))]
      · skip
        refine ep_iconst (v := 1) dX11_weightOf_62 (by decide) ?_
        refine ep_goto (tgt := 67) dX11_weightOf_63 (by decide) ?_
        refine ep_iadd dX11_weightOf_67 ?_
        refine ep_istore (l' := [(4, .int ((z_alk (fun o => x (7 + o)) b k) + 1)), (5, .int (nI k)), (3, .int (x b + T.pr tb)), (0, .ref 112), (1, .ref 124), (2, .int (nI b))]) dX11_weightOf_68 (by decide) rfl ?_
        refine ep_iinc (v := (nI (k + 1))) (l' := [(5, .int ((nI (k + 1)))), (4, .int ((z_alk (fun o => x (7 + o)) b k) + 1)), (3, .int (x b + T.pr tb)), (0, .ref 112), (1, .ref 124), (2, .int (nI b))]) dX11_weightOf_70 rfl (nI_1 _) (by decide) rfl ?_
        refine ep_goto (tgt := 29) dX11_weightOf_73 (by decide) ?_
        refine ep_eq (l2 := [(5, .int (nI (k + 1))), (4, .int (z_alk (fun o => x (7 + o)) b (k + 1))), (3, .int (x b + T.pr tb)), (0, .ref 112), (1, .ref 124), (2, .int (nI b))]) rfl ?_ rfl rfl (ih () trivial)
        rw [z_alk]
        first | rw [if_pos ⟨fun e => absurd (congrArg nI e) (by assumption), (by show x (7 + k) = x (7 + b); rw [etb]; exact Classical.not_not.mp (by assumption)) ⟩] | rw [if_neg (fun e => absurd (show x (7 + k) = nI tb from e.2.trans etb) (by assumption))] | rw [if_neg (fun e => e.1 (z_nIinj (by assumption) (by omega) (by omega)))]
  · intro a hinv
    show eb_P _ _ 29 [(5, .int (nI T.c)), (4, .int (z_alk (fun o => x (7 + o)) b T.c)), (3, .int (x b + T.pr tb)), (0, .ref 112), (1, .ref 124), (2, .int (nI b))] [] (n, sl, kd, I, L, Rf) _
    refine ep_iload (i := 5) dX11_weightOf_29 rfl ?_
    refine ep_aload_n (i := 0) dX11_weightOf_31 rfl rfl ?_
    refine ep_getI dX11_weightOf_32 flX11_95 (hF.lt (by decide)) (hF.kc (by decide) rfl) ?_
    refine ep_topE (y := nI T.c) hM.c ?_
    refine ep_icmp_ge (tgt := 76) dX11_weightOf_35 (by decide) (fun c5 => ?_) (fun c5 => absurd (nI_le (Nat.le_refl _) (by omega)) c5)
    refine ep_aload_n (i := 0) dX11_weightOf_76 rfl rfl ?_
    refine ep_getR dX11_weightOf_77 flX11_40 (hF.lt (by decide)) (hF.kc (by decide) rfl) (hF.pt 114 rfl) ?_
    refine ep_iconst (v := 0) dX11_weightOf_80 (by decide) ?_
    refine ep_aload_n (i := 1) dX11_weightOf_81 rfl rfl ?_
    refine ep_iload_n (i := 2) dX11_weightOf_82 rfl rfl ?_
    refine ep_iaN (k := b) dX11_weightOf_83 (hF.lt (by decide)) (hF.ka (by decide) rfl) (by omega) (by decide) ?_
    refine ep_topE (y := x b) (hx _ (by omega)) ?_
    refine ep_isN (k := 0) dX11_weightOf_84 (hF.lt (by decide)) (hF.lx (by decide)) (hF.ka (by decide) rfl) (by omega) (by decide) ?_
    refine ep_nmI (fun I6 hI6 => ?_)
    refine ep_aload_n (i := 0) dX11_weightOf_85 rfl rfl ?_
    refine ep_getR dX11_weightOf_86 flX11_40 (hF.lt (by decide)) (hF.kc (by decide) rfl) (hF.pt 114 rfl) ?_
    refine ep_iconst (v := 1) dX11_weightOf_89 (by decide) ?_
    refine ep_aload_n (i := 0) dX11_weightOf_90 rfl rfl ?_
    refine ep_getR dX11_weightOf_91 flX11_13 (hF.lt (by decide)) (hF.kc (by decide) rfl) (hF.pt 108 rfl) ?_
    refine ep_aload_n (i := 1) dX11_weightOf_94 rfl rfl ?_
    refine ep_bipush (v := 7) dX11_weightOf_95 (by decide) ?_
    refine ep_iload_n (i := 2) dX11_weightOf_97 rfl rfl ?_
    refine ep_iadd dX11_weightOf_98 ?_
    refine ep_topE (y := nI (7 + b)) (nI_add _ _) ?_
    refine ep_iaN (k := (7 + b)) dX11_weightOf_99 (hF.lt (by decide)) (hF.ka (by decide) rfl) (by omega) (by decide) ?_
    refine ep_topE (y := I 124 (7 + b)) (by rw [hI6, z_set_ne (by decide)]) ?_
    refine ep_topE (y := nI tb) ((hx _ (by omega)).trans etb) ?_
    refine ep_iaN (k := tb) dX11_weightOf_100 (hF.lt (by decide)) (hF.ka (by decide) rfl) (by omega) (by decide) ?_
    refine ep_topE (y := I 114 tb) (by rw [hI6, z_set_ne (by decide)]) ?_
    refine ep_topE (y := T.pr tb) (hM.pr tb htb) ?_
    refine ep_isN (k := 1) dX11_weightOf_101 (hF.lt (by decide)) (hF.lx (by decide)) (hF.ka (by decide) rfl) (by omega) (by decide) ?_
    refine ep_nmI (fun I7 hI7 => ?_)
    refine ep_aload_n (i := 0) dX11_weightOf_102 rfl rfl ?_
    refine ep_getR dX11_weightOf_103 flX11_40 (hF.lt (by decide)) (hF.kc (by decide) rfl) (hF.pt 114 rfl) ?_
    refine ep_iconst (v := 2) dX11_weightOf_106 (by decide) ?_
    refine ep_iload (i := 4) dX11_weightOf_107 rfl ?_
    refine ep_isN (k := 2) dX11_weightOf_109 (hF.lt (by decide)) (hF.lx (by decide)) (hF.ka (by decide) rfl) (by omega) (by decide) ?_
    refine ep_nmI (fun I8 hI8 => ?_)
    refine ep_aload_n (i := 0) dX11_weightOf_110 rfl rfl ?_
    refine ep_getR dX11_weightOf_111 flX11_40 (hF.lt (by decide)) (hF.kc (by decide) rfl) (hF.pt 114 rfl) ?_
    refine ep_iconst (v := 3) dX11_weightOf_114 (by decide) ?_
    refine ep_aload_n (i := 1) dX11_weightOf_115 rfl rfl ?_
    refine ep_bipush (v := 14) dX11_weightOf_116 (by decide) ?_
    refine ep_iload_n (i := 2) dX11_weightOf_118 rfl rfl ?_
    refine ep_iadd dX11_weightOf_119 ?_
    refine ep_topE (y := nI (14 + b)) (nI_add _ _) ?_
    refine ep_iaN (k := (14 + b)) dX11_weightOf_120 (hF.lt (by decide)) (hF.ka (by decide) rfl) (by omega) (by decide) ?_
    refine ep_topE (y := I 124 (14 + b)) (by rw [hI8, z_set_ne (by decide), hI7, z_set_ne (by decide), hI6, z_set_ne (by decide)]) ?_
    refine ep_topE (y := x (14 + b)) (hx _ (by omega)) ?_
    refine ep_abs dX11_weightOf_121 xmX11_192 (Nat.le_of_ble_eq_true rfl) ?_
    refine ep_topE (y := z_ab (x (14 + b))) rfl ?_
    refine ep_isN (k := 3) dX11_weightOf_124 (hF.lt (by decide)) (hF.lx (by decide)) (hF.ka (by decide) rfl) (by omega) (by decide) ?_
    refine ep_nmI (fun I9 hI9 => ?_)
    refine ep_aload_n (i := 0) dX11_weightOf_125 rfl rfl ?_
    refine ep_getR dX11_weightOf_126 flX11_40 (hF.lt (by decide)) (hF.kc (by decide) rfl) (hF.pt 114 rfl) ?_
    refine ep_iconst (v := 4) dX11_weightOf_129 (by decide) ?_
    refine ep_aload_n (i := 1) dX11_weightOf_130 rfl rfl ?_
    refine ep_bipush (v := 22) dX11_weightOf_131 (by decide) ?_
    refine ep_iaN (k := 22) dX11_weightOf_133 (hF.lt (by decide)) (hF.ka (by decide) rfl) (by omega) (by decide) ?_
    refine ep_topE (y := I 124 22) (by rw [hI9, z_set_ne (by decide), hI8, z_set_ne (by decide), hI7, z_set_ne (by decide), hI6, z_set_ne (by decide)]) ?_
    refine ep_topE (y := x 22) (hx _ (by omega)) ?_
    refine ep_abs dX11_weightOf_134 xmX11_192 (Nat.le_of_ble_eq_true rfl) ?_
    refine ep_topE (y := z_ab (x 22)) rfl ?_
    refine ep_isN (k := 4) dX11_weightOf_137 (hF.lt (by decide)) (hF.lx (by decide)) (hF.ka (by decide) rfl) (by omega) (by decide) ?_
    refine ep_nmI (fun I10 hI10 => ?_)
    refine ep_aload_n (i := 0) dX11_weightOf_138 rfl rfl ?_
    refine ep_getR dX11_weightOf_139 flX11_40 (hF.lt (by decide)) (hF.kc (by decide) rfl) (hF.pt 114 rfl) ?_
    refine ep_iconst (v := 5) dX11_weightOf_142 (by decide) ?_
    refine ep_iload_n (i := 2) dX11_weightOf_143 rfl rfl ?_
    refine ep_isN (k := 5) dX11_weightOf_144 (hF.lt (by decide)) (hF.lx (by decide)) (hF.ka (by decide) rfl) (by omega) (by decide) ?_
    refine ep_nmI (fun I11 hI11 => ?_)
    refine ep_aload_n (i := 0) dX11_weightOf_145 rfl rfl ?_
    refine ep_getR dX11_weightOf_146 flX11_40 (hF.lt (by decide)) (hF.kc (by decide) rfl) (hF.pt 114 rfl) ?_
    refine ep_bipush (v := 6) dX11_weightOf_149 (by decide) ?_
    refine ep_aload_n (i := 1) dX11_weightOf_151 rfl rfl ?_
    refine ep_bipush (v := 25) dX11_weightOf_152 (by decide) ?_
    refine ep_iaN (k := 25) dX11_weightOf_154 (hF.lt (by decide)) (hF.ka (by decide) rfl) (by omega) (by decide) ?_
    refine ep_topE (y := I 124 25) (by rw [hI11, z_set_ne (by decide), hI10, z_set_ne (by decide), hI9, z_set_ne (by decide), hI8, z_set_ne (by decide), hI7, z_set_ne (by decide), hI6, z_set_ne (by decide)]) ?_
    refine ep_topE (y := x 25) (hx _ (by omega)) ?_
    refine ep_bipush (v := 7) dX11_weightOf_155 (by decide) ?_
    refine ep_irem dX11_weightOf_157 (by decide) ?_
    refine ep_isN (k := 6) dX11_weightOf_158 (hF.lt (by decide)) (hF.lx (by decide)) (hF.ka (by decide) rfl) (by omega) (by decide) ?_
    refine ep_nmI (fun I12 hI12 => ?_)
    refine ep_aload_n (i := 0) dX11_weightOf_159 rfl rfl ?_
    refine ep_aload_n (i := 0) dX11_weightOf_160 rfl rfl ?_
    refine ep_getR dX11_weightOf_161 flX11_34 (hF.lt (by decide)) (hF.kc (by decide) rfl) hru ?_
    refine ep_aload_n (i := 0) dX11_weightOf_164 rfl rfl ?_
    refine ep_getI dX11_weightOf_165 flX11_189 (hF.lt (by decide)) (hF.kc (by decide) rfl) ?_
    refine ep_topE (y := I 112 18) (by rw [hI12, z_set_ne (by decide), hI11, z_set_ne (by decide), hI10, z_set_ne (by decide), hI9, z_set_ne (by decide), hI8, z_set_ne (by decide), hI7, z_set_ne (by decide), hI6, z_set_ne (by decide)]) ?_
    refine ep_topE (y := nI s) hs ?_
    refine ep_bipush (v := 40) dX11_weightOf_168 (by decide) ?_
    refine ep_callV (M1 := mX11_begin) (rest := []) dX11_weightOf_170 mlX11_120 mvX11_begin rfl (hF.lt (by decide)) (hF.kc (by decide) rfl) (Nat.le_of_ble_eq_true rfl) rfl (q_X11_begin (I := I12) (d + 305) hF (hF.lt (by decide)) (nI s) 40) (eb_vok rfl) ?_
    rintro _ _ ⟨rfl, rfl⟩
    show eb_P _ _ 173 [(5, .int (nI T.c)), (4, .int (z_alk (fun o => x (7 + o)) b T.c)), (3, .int (x b + T.pr tb)), (0, .ref 112), (1, .ref 124), (2, .int (nI b))] [] (n, sl, kd, z_bgn I12 (nI s) 40, L, z_rd Rf 119) _
    refine ep_nmI (fun I13 hI13 => ?_)
    refine ep_aload_n (i := 0) dX11_weightOf_173 rfl rfl ?_
    refine ep_iconst (v := 1) dX11_weightOf_174 (by decide) ?_
    refine ep_pI dX11_weightOf_175 plX11_182 (hF.lt (by decide)) (hF.lx (by decide)) (hF.kc (by decide) rfl) rfl rfl ?_
    refine ep_nmI (fun I14 hI14 => ?_)
    refine ep_aload_n (i := 0) dX11_weightOf_178 rfl rfl ?_
    refine ep_iconst (v := 0) dX11_weightOf_179 (by decide) ?_
    have hvv := (z_bgn_v (I := I12) (l := nI s) (tp := 40))
    have hP : zpc n kd I14 (z_rd Rf 119) 119 40 s 40 (I 119) := ⟨hF.tr (fun c k g => z_rd_ne g), z_rd_at, hF.ka (by decide) rfl, ⟨hs4, by decide⟩, ⟨by decide, by decide⟩, (by rw [hI14, z_set_nk (by decide), hI13]; exact hvv.1), ⟨(by rw [hI14, z_set_nk (by decide), hI13]; exact hvv.2.1), by decide⟩, (by rw [hI14, z_set_ne (by decide), hI13, z_bgn_ne (by decide), hI12, z_set_ne (by decide), hI11, z_set_ne (by decide), hI10, z_set_ne (by decide), hI9, z_set_ne (by decide), hI8, z_set_ne (by decide), hI7, z_set_ne (by decide), hI6, z_set_ne (by decide)]), hby⟩
    have ha0 : I14 121 0 = z_t7 (x b) (T.pr tb) (z_alk (fun o => x (7 + o)) b T.c) (z_ab (x (14 + b))) (z_ab (x 22)) (nI b) (x 25 - x 25 / 7 * 7) 0 := by rw [hI14, z_set_ne (by decide), hI13, z_bgn_ne (by decide), hI12, z_set_nk (by decide), hI11, z_set_nk (by decide), hI10, z_set_nk (by decide), hI9, z_set_nk (by decide), hI8, z_set_nk (by decide), hI7, z_set_nk (by decide), hI6, z_set_at]; rfl
    have ha1 : I14 121 1 = z_t7 (x b) (T.pr tb) (z_alk (fun o => x (7 + o)) b T.c) (z_ab (x (14 + b))) (z_ab (x 22)) (nI b) (x 25 - x 25 / 7 * 7) 1 := by rw [hI14, z_set_ne (by decide), hI13, z_bgn_ne (by decide), hI12, z_set_nk (by decide), hI11, z_set_nk (by decide), hI10, z_set_nk (by decide), hI9, z_set_nk (by decide), hI8, z_set_nk (by decide), hI7, z_set_at]; rfl
    have ha2 : I14 121 2 = z_t7 (x b) (T.pr tb) (z_alk (fun o => x (7 + o)) b T.c) (z_ab (x (14 + b))) (z_ab (x 22)) (nI b) (x 25 - x 25 / 7 * 7) 2 := by rw [hI14, z_set_ne (by decide), hI13, z_bgn_ne (by decide), hI12, z_set_nk (by decide), hI11, z_set_nk (by decide), hI10, z_set_nk (by decide), hI9, z_set_nk (by decide), hI8, z_set_at]; rfl
    have ha3 : I14 121 3 = z_t7 (x b) (T.pr tb) (z_alk (fun o => x (7 + o)) b T.c) (z_ab (x (14 + b))) (z_ab (x 22)) (nI b) (x 25 - x 25 / 7 * 7) 3 := by rw [hI14, z_set_ne (by decide), hI13, z_bgn_ne (by decide), hI12, z_set_nk (by decide), hI11, z_set_nk (by decide), hI10, z_set_nk (by decide), hI9, z_set_at]; rfl
    have ha4 : I14 121 4 = z_t7 (x b) (T.pr tb) (z_alk (fun o => x (7 + o)) b T.c) (z_ab (x (14 + b))) (z_ab (x 22)) (nI b) (x 25 - x 25 / 7 * 7) 4 := by rw [hI14, z_set_ne (by decide), hI13, z_bgn_ne (by decide), hI12, z_set_nk (by decide), hI11, z_set_nk (by decide), hI10, z_set_at]; rfl
    have ha5 : I14 121 5 = z_t7 (x b) (T.pr tb) (z_alk (fun o => x (7 + o)) b T.c) (z_ab (x (14 + b))) (z_ab (x 22)) (nI b) (x 25 - x 25 / 7 * 7) 5 := by rw [hI14, z_set_ne (by decide), hI13, z_bgn_ne (by decide), hI12, z_set_nk (by decide), hI11, z_set_at]; rfl
    have ha6 : I14 121 6 = z_t7 (x b) (T.pr tb) (z_alk (fun o => x (7 + o)) b T.c) (z_ab (x (14 + b))) (z_ab (x 22)) (nI b) (x 25 - x 25 / 7 * 7) 6 := by rw [hI14, z_set_ne (by decide), hI13, z_bgn_ne (by decide), hI12, z_set_at]; rfl
    have hA : (I14 112 19 = 1 ∧ ∀ q, q < 7 → I14 121 q = z_t7 (x b) (T.pr tb) (z_alk (fun o => x (7 + o)) b T.c) (z_ab (x (14 + b))) (z_ab (x 22)) (nI b) (x 25 - x 25 / 7 * 7) q) ∨ (I14 112 19 = 0 ∧ ∀ q, z_t7 (x b) (T.pr tb) (z_alk (fun o => x (7 + o)) b T.c) (z_ab (x (14 + b))) (z_ab (x 22)) (nI b) (x 25 - x 25 / 7 * 7) q = 0) := Or.inl ⟨by rw [hI14, z_set_at], fun q hq => by rcases (show q = 0 ∨ q = 1 ∨ q = 2 ∨ q = 3 ∨ q = 4 ∨ q = 5 ∨ q = 6 by omega) with rfl | rfl | rfl | rfl | rfl | rfl | rfl <;> assumption⟩
    refine ep_callV (M1 := mX11_held) (rest := []) dX11_weightOf_180 mlX11_169 mvX11_held rfl (hF.lt (by decide)) (hF.kc (by decide) rfl) (Nat.le_of_ble_eq_true rfl) rfl (q_X11_held0 hP hA (by rw [hI14, z_set_nk (by decide), hI13]; exact hvv.2.2.1) (by rw [hI14, z_set_nk (by decide), hI13]; exact hvv.2.2.2) d) (fun _ _ g => Or.inl (by rw [g.1])) ?_
    rintro _ _ ⟨rfl, rfl⟩
    show eb_P _ _ 183 [(5, .int (nI T.c)), (4, .int (z_alk (fun o => x (7 + o)) b T.c)), (3, .int (x b + T.pr tb)), (0, .ref 112), (1, .ref 124), (2, .int (nI b))] (.int (zp (zhr (I 119) s 40) (z_t7 (x b) (T.pr tb) (z_alk (fun o => x (7 + o)) b T.c) (z_ab (x (14 + b))) (z_ab (x 22)) (nI b) (x 25 - x 25 / 7 * 7)) 300 0 0 0 (0, -1)).1 :: []) (n, sl, kd, zpw I14 (zp (zhr (I 119) s 40) (z_t7 (x b) (T.pr tb) (z_alk (fun o => x (7 + o)) b T.c) (z_ab (x (14 + b))) (z_ab (x 22)) (nI b) (x 25 - x 25 / 7 * 7)) 300 0 0 0 (0, -1)).2, L, z_rd Rf 119) _
    refine ep_nmI (fun I15 hI15 => ?_)
    refine ep_topi (fun hv hhv => ?_)
    refine ep_istore_n (l' := [(3, .int hv), (5, .int (nI T.c)), (4, .int (z_alk (fun o => x (7 + o)) b T.c)), (0, .ref 112), (1, .ref 124), (2, .int (nI b))]) dX11_weightOf_183 rfl (by decide) rfl ?_
    refine ep_aload_n (i := 0) dX11_weightOf_184 rfl rfl ?_
    refine ep_iconst (v := 0) dX11_weightOf_185 (by decide) ?_
    refine ep_pI dX11_weightOf_186 plX11_182 (hF.lt (by decide)) (hF.lx (by decide)) (hF.kc (by decide) rfl) rfl rfl ?_
    refine ep_nmI (fun I16 hI16 => ?_)
    refine ep_iconst (v := 0) dX11_weightOf_189 (by decide) ?_
    refine ep_bipush (v := 20) dX11_weightOf_190 (by decide) ?_
    refine ep_iload_n (i := 3) dX11_weightOf_192 rfl rfl ?_
    refine ep_min dX11_weightOf_193 xmX11_197 (Nat.le_of_ble_eq_true rfl) ?_
    refine ep_max dX11_weightOf_196 xmX11_201 (Nat.le_of_ble_eq_true rfl) ?_
    refine ep_iret dX11_weightOf_199 rfl rfl ?_
    have hJ : ∀ c, c ≠ 112 → c ≠ 121 → I16 c = I c := fun c g112 g121 => by rw [hI16, z_set_ne (by omega), hI15, zpw_ne (by omega), hI14, z_set_ne (by omega), hI13, z_bgn_ne (by omega), hI12, z_set_ne (by omega), hI11, z_set_ne (by omega), hI10, z_set_ne (by omega), hI9, z_set_ne (by omega), hI8, z_set_ne (by omega), hI7, z_set_ne (by omega), hI6, z_set_ne (by omega)]
    have hJf : ∀ k, k ≠ 11 → k ≠ 12 → k ≠ 13 → k ≠ 14 → k ≠ 19 → I16 112 k = I 112 k := fun k g11 g12 g13 g14 g19 => by rw [hI16, z_set_nk (by omega), hI15, zpw_o (by omega) (by omega), hI14, z_set_nk (by omega), hI13, z_bgn_f (by omega), hI12, z_set_ne (by decide), hI11, z_set_ne (by decide), hI10, z_set_ne (by decide), hI9, z_set_ne (by decide), hI8, z_set_ne (by decide), hI7, z_set_ne (by decide), hI6, z_set_ne (by decide)]
    have e2 : zwl T.rv T.pr T.c x (x 22) (x 25) b = z_put hv 0 20 := by unfold zwl; rw [etb, nI_clamp (by omega), ← etb, ← z_alk_c (fun o => x (7 + o)) hb, ← hrv, hhv, zrvM, if_neg (by omega)]
    exact ⟨by rw [e2, ← z_put_mm _ _ _ (by decide)], _, _, rfl, ⟨fun c g112 g121 => hJ c g112 g121, fun k g11 g12 g13 g14 g19 => hJf k g11 g12 g13 g14 g19, fun c k g => z_rd_ne g⟩⟩
theorem q_X11_weightOf_124120 {n : Nat} {sl : Nat × Nat} {kd : Nat → Nat × Nat} {I : Nat → Nat → Int32} {L : Nat → Nat → Int64} {Rf : Nat → Nat → Option Nat} (d : Nat) {T : zT} (hM : zW n kd I Rf T) (hc7 : T.c ≤ 7) {H : Nat} {x : Nat → Int32} (hx : ∀ k, k < 26 → I 124 k = x k) (hxr : zxr T.c H x) (hH : H ≤ 2147483648) {b : Nat} (hb : b < T.c) {s : Nat} (hru : Rf 112 16 = some 120) (hs : I 112 18 = nI s) (hs4 : s ≤ 40) (hby : ∀ k, k < s → ∃ v, v < 256 ∧ I 120 k = (nI v).toInt8.toInt32) (hrv : ∀ th, zrvM (I 120) s th = T.rv th) (hs0 : 0 < s)  : eb_Q mX11_weightOf (d + 306) [.ref 112, .ref 124, .int (nI b)] (n, sl, kd, I, L, Rf) (zpS n sl kd I L Rf (zwl T.rv T.pr T.c x (x 22) (x 25) b)) := by
  refine ep_meth pn_X.2.2.2.2.2.2.2.2.2.2.2 (Nat.le_of_ble_eq_true rfl) ?_
  have hF := hM.F
  obtain ⟨tb, htb, etb⟩ := hxr.t b hb
  show eb_P _ _ 0 [(0, .ref 112), (1, .ref 124), (2, .int (nI b))] [] (n, sl, kd, I, L, Rf) _
  refine ep_aload_n (i := 1) dX11_weightOf_0 rfl rfl ?_
  refine ep_iload_n (i := 2) dX11_weightOf_1 rfl rfl ?_
  refine ep_iaN (k := b) dX11_weightOf_2 (hF.lt (by decide)) (hF.ka (by decide) rfl) (by omega) (by decide) ?_
  refine ep_topE (y := x b) (hx _ (by omega)) ?_
  refine ep_aload_n (i := 0) dX11_weightOf_3 rfl rfl ?_
  refine ep_getR dX11_weightOf_4 flX11_13 (hF.lt (by decide)) (hF.kc (by decide) rfl) (hF.pt 108 rfl) ?_
  refine ep_aload_n (i := 1) dX11_weightOf_7 rfl rfl ?_
  refine ep_bipush (v := 7) dX11_weightOf_8 (by decide) ?_
  refine ep_iload_n (i := 2) dX11_weightOf_10 rfl rfl ?_
  refine ep_iadd dX11_weightOf_11 ?_
  refine ep_topE (y := nI (7 + b)) (nI_add _ _) ?_
  refine ep_iaN (k := (7 + b)) dX11_weightOf_12 (hF.lt (by decide)) (hF.ka (by decide) rfl) (by omega) (by decide) ?_
  refine ep_topE (y := nI tb) ((hx _ (by omega)).trans etb) ?_
  refine ep_iaN (k := tb) dX11_weightOf_13 (hF.lt (by decide)) (hF.ka (by decide) rfl) (by omega) (by decide) ?_
  refine ep_topE (y := T.pr tb) (hM.pr tb htb) ?_
  refine ep_iadd dX11_weightOf_14 ?_
  refine ep_istore_n (l' := [(3, .int ((x b) + (T.pr tb))), (0, .ref 112), (1, .ref 124), (2, .int (nI b))]) dX11_weightOf_15 rfl (by decide) rfl ?_
  refine ep_aload_n (i := 0) dX11_weightOf_16 rfl rfl ?_
  refine ep_getI dX11_weightOf_17 flX11_189 (hF.lt (by decide)) (hF.kc (by decide) rfl) ?_
  refine ep_topE (y := nI s) hs ?_
  refine ep_if_le (tgt := 189) dX11_weightOf_20 (by decide) (fun c1 => absurd c1 (nI_nle hs0 (by omega))) (fun c1 => ?_)
  refine ep_iconst (v := 0) dX11_weightOf_23 (by decide) ?_
  refine ep_istore (l' := [(4, .int 0), (3, .int ((x b) + (T.pr tb))), (0, .ref 112), (1, .ref 124), (2, .int (nI b))]) dX11_weightOf_24 (by decide) rfl ?_
  refine ep_iconst (v := 0) dX11_weightOf_26 (by decide) ?_
  refine ep_istore (l' := [(5, .int 0), (4, .int 0), (3, .int ((x b) + (T.pr tb))), (0, .ref 112), (1, .ref 124), (2, .int (nI b))]) dX11_weightOf_27 (by decide) rfl ?_
  refine ep_eq (l2 := [(5, .int (nI 0)), (4, .int (z_alk (fun o => x (7 + o)) b 0)), (3, .int (x b + T.pr tb)), (0, .ref 112), (1, .ref 124), (2, .int (nI b))]) (σ2 := (n, sl, kd, I, L, Rf)) rfl (by rw [nI_0]; rfl) rfl rfl ?_
  refine ep_for T.c (fun k (a : Unit) => ([(5, .int (nI k)), (4, .int (z_alk (fun o => x (7 + o)) b k)), (3, .int (x b + T.pr tb)), (0, .ref 112), (1, .ref 124), (2, .int (nI b))], (n, sl, kd, I, L, Rf))) (fun k a => True) ?_ ?_ T.c 0 () (by omega) trivial
  · intro k a hk hinv ih
    show eb_P _ _ 29 [(5, .int (nI k)), (4, .int (z_alk (fun o => x (7 + o)) b k)), (3, .int (x b + T.pr tb)), (0, .ref 112), (1, .ref 124), (2, .int (nI b))] [] (n, sl, kd, I, L, Rf) _
    refine ep_iload (i := 5) dX11_weightOf_29 rfl ?_
    refine ep_aload_n (i := 0) dX11_weightOf_31 rfl rfl ?_
    refine ep_getI dX11_weightOf_32 flX11_95 (hF.lt (by decide)) (hF.kc (by decide) rfl) ?_
    refine ep_topE (y := nI T.c) hM.c ?_
    refine ep_icmp_ge (tgt := 76) dX11_weightOf_35 (by decide) (fun c2 => absurd c2 (nI_ge hk (by omega))) (fun c2 => ?_)
    refine ep_iload (i := 4) dX11_weightOf_38 rfl ?_
    refine ep_iload (i := 5) dX11_weightOf_40 rfl ?_
    refine ep_iload_n (i := 2) dX11_weightOf_42 rfl rfl ?_
    refine ep_icmp_eq (tgt := 66) dX11_weightOf_43 (by decide) (fun c3 => ?_) (fun c3 => ?_)
    · skip
      refine ep_iconst (v := 0) dX11_weightOf_66 (by decide) ?_
      refine ep_iadd dX11_weightOf_67 ?_
      refine ep_istore (l' := [(4, .int ((z_alk (fun o => x (7 + o)) b k) + 0)), (5, .int (nI k)), (3, .int (x b + T.pr tb)), (0, .ref 112), (1, .ref 124), (2, .int (nI b))]) dX11_weightOf_68 (by decide) rfl ?_
      refine ep_iinc (v := (nI (k + 1))) (l' := [(5, .int ((nI (k + 1)))), (4, .int ((z_alk (fun o => x (7 + o)) b k) + 0)), (3, .int (x b + T.pr tb)), (0, .ref 112), (1, .ref 124), (2, .int (nI b))]) dX11_weightOf_70 rfl (nI_1 _) (by decide) rfl ?_
      refine ep_goto (tgt := 29) dX11_weightOf_73 (by decide) ?_
      refine ep_eq (l2 := [(5, .int (nI (k + 1))), (4, .int (z_alk (fun o => x (7 + o)) b (k + 1))), (3, .int (x b + T.pr tb)), (0, .ref 112), (1, .ref 124), (2, .int (nI b))]) rfl ?_ rfl rfl (ih () trivial)
      rw [z_alk]
      first | rw [if_pos ⟨fun e => absurd (congrArg nI e) (by assumption), (by show x (7 + k) = x (7 + b); rw [etb]; exact Classical.not_not.mp (by assumption)) ⟩] | rw [if_neg (fun e => absurd (show x (7 + k) = nI tb from e.2.trans etb) (by assumption))] | rw [if_neg (fun e => e.1 (z_nIinj (by assumption) (by omega) (by omega)))]
    · skip
      refine ep_aload_n (i := 1) dX11_weightOf_46 rfl rfl ?_
      refine ep_bipush (v := 7) dX11_weightOf_47 (by decide) ?_
      refine ep_iload (i := 5) dX11_weightOf_49 rfl ?_
      refine ep_iadd dX11_weightOf_51 ?_
      refine ep_topE (y := nI (7 + k)) (nI_add _ _) ?_
      refine ep_iaN (k := (7 + k)) dX11_weightOf_52 (hF.lt (by decide)) (hF.ka (by decide) rfl) (by omega) (by decide) ?_
      refine ep_topE (y := x (7 + k)) (hx _ (by omega)) ?_
      refine ep_aload_n (i := 1) dX11_weightOf_53 rfl rfl ?_
      refine ep_bipush (v := 7) dX11_weightOf_54 (by decide) ?_
      refine ep_iload_n (i := 2) dX11_weightOf_56 rfl rfl ?_
      refine ep_iadd dX11_weightOf_57 ?_
      refine ep_topE (y := nI (7 + b)) (nI_add _ _) ?_
      refine ep_iaN (k := (7 + b)) dX11_weightOf_58 (hF.lt (by decide)) (hF.ka (by decide) rfl) (by omega) (by decide) ?_
      refine ep_topE (y := nI tb) ((hx _ (by omega)).trans etb) ?_
      refine ep_icmp_ne (tgt := 66) dX11_weightOf_59 (by decide) (fun c4 => ?_) (fun c4 => ?_)
      · skip
        refine ep_iconst (v := 0) dX11_weightOf_66 (by decide) ?_
        refine ep_iadd dX11_weightOf_67 ?_
        refine ep_istore (l' := [(4, .int ((z_alk (fun o => x (7 + o)) b k) + 0)), (5, .int (nI k)), (3, .int (x b + T.pr tb)), (0, .ref 112), (1, .ref 124), (2, .int (nI b))]) dX11_weightOf_68 (by decide) rfl ?_
        refine ep_iinc (v := (nI (k + 1))) (l' := [(5, .int ((nI (k + 1)))), (4, .int ((z_alk (fun o => x (7 + o)) b k) + 0)), (3, .int (x b + T.pr tb)), (0, .ref 112), (1, .ref 124), (2, .int (nI b))]) dX11_weightOf_70 rfl (nI_1 _) (by decide) rfl ?_
        refine ep_goto (tgt := 29) dX11_weightOf_73 (by decide) ?_
        refine ep_eq (l2 := [(5, .int (nI (k + 1))), (4, .int (z_alk (fun o => x (7 + o)) b (k + 1))), (3, .int (x b + T.pr tb)), (0, .ref 112), (1, .ref 124), (2, .int (nI b))]) rfl ?_ rfl rfl (ih () trivial)
        rw [z_alk]
        first | rw [if_pos ⟨fun e => absurd (congrArg nI e) (by assumption), (by show x (7 + k) = x (7 + b); rw [etb]; exact Classical.not_not.mp (by assumption)) ⟩] | rw [if_neg (fun e => absurd (show x (7 + k) = nI tb from e.2.trans etb) (by assumption))] | rw [if_neg (fun e => e.1 (z_nIinj (by assumption) (by omega) (by omega)))]
      · skip
        refine ep_iconst (v := 1) dX11_weightOf_62 (by decide) ?_
        refine ep_goto (tgt := 67) dX11_weightOf_63 (by decide) ?_
        refine ep_iadd dX11_weightOf_67 ?_
        refine ep_istore (l' := [(4, .int ((z_alk (fun o => x (7 + o)) b k) + 1)), (5, .int (nI k)), (3, .int (x b + T.pr tb)), (0, .ref 112), (1, .ref 124), (2, .int (nI b))]) dX11_weightOf_68 (by decide) rfl ?_
        refine ep_iinc (v := (nI (k + 1))) (l' := [(5, .int ((nI (k + 1)))), (4, .int ((z_alk (fun o => x (7 + o)) b k) + 1)), (3, .int (x b + T.pr tb)), (0, .ref 112), (1, .ref 124), (2, .int (nI b))]) dX11_weightOf_70 rfl (nI_1 _) (by decide) rfl ?_
        refine ep_goto (tgt := 29) dX11_weightOf_73 (by decide) ?_
        refine ep_eq (l2 := [(5, .int (nI (k + 1))), (4, .int (z_alk (fun o => x (7 + o)) b (k + 1))), (3, .int (x b + T.pr tb)), (0, .ref 112), (1, .ref 124), (2, .int (nI b))]) rfl ?_ rfl rfl (ih () trivial)
        rw [z_alk]
        first | rw [if_pos ⟨fun e => absurd (congrArg nI e) (by assumption), (by show x (7 + k) = x (7 + b); rw [etb]; exact Classical.not_not.mp (by assumption)) ⟩] | rw [if_neg (fun e => absurd (show x (7 + k) = nI tb from e.2.trans etb) (by assumption))] | rw [if_neg (fun e => e.1 (z_nIinj (by assumption) (by omega) (by omega)))]
  · intro a hinv
    show eb_P _ _ 29 [(5, .int (nI T.c)), (4, .int (z_alk (fun o => x (7 + o)) b T.c)), (3, .int (x b + T.pr tb)), (0, .ref 112), (1, .ref 124), (2, .int (nI b))] [] (n, sl, kd, I, L, Rf) _
    refine ep_iload (i := 5) dX11_weightOf_29 rfl ?_
    refine ep_aload_n (i := 0) dX11_weightOf_31 rfl rfl ?_
    refine ep_getI dX11_weightOf_32 flX11_95 (hF.lt (by decide)) (hF.kc (by decide) rfl) ?_
    refine ep_topE (y := nI T.c) hM.c ?_
    refine ep_icmp_ge (tgt := 76) dX11_weightOf_35 (by decide) (fun c5 => ?_) (fun c5 => absurd (nI_le (Nat.le_refl _) (by omega)) c5)
    refine ep_aload_n (i := 0) dX11_weightOf_76 rfl rfl ?_
    refine ep_getR dX11_weightOf_77 flX11_40 (hF.lt (by decide)) (hF.kc (by decide) rfl) (hF.pt 114 rfl) ?_
    refine ep_iconst (v := 0) dX11_weightOf_80 (by decide) ?_
    refine ep_aload_n (i := 1) dX11_weightOf_81 rfl rfl ?_
    refine ep_iload_n (i := 2) dX11_weightOf_82 rfl rfl ?_
    refine ep_iaN (k := b) dX11_weightOf_83 (hF.lt (by decide)) (hF.ka (by decide) rfl) (by omega) (by decide) ?_
    refine ep_topE (y := x b) (hx _ (by omega)) ?_
    refine ep_isN (k := 0) dX11_weightOf_84 (hF.lt (by decide)) (hF.lx (by decide)) (hF.ka (by decide) rfl) (by omega) (by decide) ?_
    refine ep_nmI (fun I6 hI6 => ?_)
    refine ep_aload_n (i := 0) dX11_weightOf_85 rfl rfl ?_
    refine ep_getR dX11_weightOf_86 flX11_40 (hF.lt (by decide)) (hF.kc (by decide) rfl) (hF.pt 114 rfl) ?_
    refine ep_iconst (v := 1) dX11_weightOf_89 (by decide) ?_
    refine ep_aload_n (i := 0) dX11_weightOf_90 rfl rfl ?_
    refine ep_getR dX11_weightOf_91 flX11_13 (hF.lt (by decide)) (hF.kc (by decide) rfl) (hF.pt 108 rfl) ?_
    refine ep_aload_n (i := 1) dX11_weightOf_94 rfl rfl ?_
    refine ep_bipush (v := 7) dX11_weightOf_95 (by decide) ?_
    refine ep_iload_n (i := 2) dX11_weightOf_97 rfl rfl ?_
    refine ep_iadd dX11_weightOf_98 ?_
    refine ep_topE (y := nI (7 + b)) (nI_add _ _) ?_
    refine ep_iaN (k := (7 + b)) dX11_weightOf_99 (hF.lt (by decide)) (hF.ka (by decide) rfl) (by omega) (by decide) ?_
    refine ep_topE (y := I 124 (7 + b)) (by rw [hI6, z_set_ne (by decide)]) ?_
    refine ep_topE (y := nI tb) ((hx _ (by omega)).trans etb) ?_
    refine ep_iaN (k := tb) dX11_weightOf_100 (hF.lt (by decide)) (hF.ka (by decide) rfl) (by omega) (by decide) ?_
    refine ep_topE (y := I 114 tb) (by rw [hI6, z_set_ne (by decide)]) ?_
    refine ep_topE (y := T.pr tb) (hM.pr tb htb) ?_
    refine ep_isN (k := 1) dX11_weightOf_101 (hF.lt (by decide)) (hF.lx (by decide)) (hF.ka (by decide) rfl) (by omega) (by decide) ?_
    refine ep_nmI (fun I7 hI7 => ?_)
    refine ep_aload_n (i := 0) dX11_weightOf_102 rfl rfl ?_
    refine ep_getR dX11_weightOf_103 flX11_40 (hF.lt (by decide)) (hF.kc (by decide) rfl) (hF.pt 114 rfl) ?_
    refine ep_iconst (v := 2) dX11_weightOf_106 (by decide) ?_
    refine ep_iload (i := 4) dX11_weightOf_107 rfl ?_
    refine ep_isN (k := 2) dX11_weightOf_109 (hF.lt (by decide)) (hF.lx (by decide)) (hF.ka (by decide) rfl) (by omega) (by decide) ?_
    refine ep_nmI (fun I8 hI8 => ?_)
    refine ep_aload_n (i := 0) dX11_weightOf_110 rfl rfl ?_
    refine ep_getR dX11_weightOf_111 flX11_40 (hF.lt (by decide)) (hF.kc (by decide) rfl) (hF.pt 114 rfl) ?_
    refine ep_iconst (v := 3) dX11_weightOf_114 (by decide) ?_
    refine ep_aload_n (i := 1) dX11_weightOf_115 rfl rfl ?_
    refine ep_bipush (v := 14) dX11_weightOf_116 (by decide) ?_
    refine ep_iload_n (i := 2) dX11_weightOf_118 rfl rfl ?_
    refine ep_iadd dX11_weightOf_119 ?_
    refine ep_topE (y := nI (14 + b)) (nI_add _ _) ?_
    refine ep_iaN (k := (14 + b)) dX11_weightOf_120 (hF.lt (by decide)) (hF.ka (by decide) rfl) (by omega) (by decide) ?_
    refine ep_topE (y := I 124 (14 + b)) (by rw [hI8, z_set_ne (by decide), hI7, z_set_ne (by decide), hI6, z_set_ne (by decide)]) ?_
    refine ep_topE (y := x (14 + b)) (hx _ (by omega)) ?_
    refine ep_abs dX11_weightOf_121 xmX11_192 (Nat.le_of_ble_eq_true rfl) ?_
    refine ep_topE (y := z_ab (x (14 + b))) rfl ?_
    refine ep_isN (k := 3) dX11_weightOf_124 (hF.lt (by decide)) (hF.lx (by decide)) (hF.ka (by decide) rfl) (by omega) (by decide) ?_
    refine ep_nmI (fun I9 hI9 => ?_)
    refine ep_aload_n (i := 0) dX11_weightOf_125 rfl rfl ?_
    refine ep_getR dX11_weightOf_126 flX11_40 (hF.lt (by decide)) (hF.kc (by decide) rfl) (hF.pt 114 rfl) ?_
    refine ep_iconst (v := 4) dX11_weightOf_129 (by decide) ?_
    refine ep_aload_n (i := 1) dX11_weightOf_130 rfl rfl ?_
    refine ep_bipush (v := 22) dX11_weightOf_131 (by decide) ?_
    refine ep_iaN (k := 22) dX11_weightOf_133 (hF.lt (by decide)) (hF.ka (by decide) rfl) (by omega) (by decide) ?_
    refine ep_topE (y := I 124 22) (by rw [hI9, z_set_ne (by decide), hI8, z_set_ne (by decide), hI7, z_set_ne (by decide), hI6, z_set_ne (by decide)]) ?_
    refine ep_topE (y := x 22) (hx _ (by omega)) ?_
    refine ep_abs dX11_weightOf_134 xmX11_192 (Nat.le_of_ble_eq_true rfl) ?_
    refine ep_topE (y := z_ab (x 22)) rfl ?_
    refine ep_isN (k := 4) dX11_weightOf_137 (hF.lt (by decide)) (hF.lx (by decide)) (hF.ka (by decide) rfl) (by omega) (by decide) ?_
    refine ep_nmI (fun I10 hI10 => ?_)
    refine ep_aload_n (i := 0) dX11_weightOf_138 rfl rfl ?_
    refine ep_getR dX11_weightOf_139 flX11_40 (hF.lt (by decide)) (hF.kc (by decide) rfl) (hF.pt 114 rfl) ?_
    refine ep_iconst (v := 5) dX11_weightOf_142 (by decide) ?_
    refine ep_iload_n (i := 2) dX11_weightOf_143 rfl rfl ?_
    refine ep_isN (k := 5) dX11_weightOf_144 (hF.lt (by decide)) (hF.lx (by decide)) (hF.ka (by decide) rfl) (by omega) (by decide) ?_
    refine ep_nmI (fun I11 hI11 => ?_)
    refine ep_aload_n (i := 0) dX11_weightOf_145 rfl rfl ?_
    refine ep_getR dX11_weightOf_146 flX11_40 (hF.lt (by decide)) (hF.kc (by decide) rfl) (hF.pt 114 rfl) ?_
    refine ep_bipush (v := 6) dX11_weightOf_149 (by decide) ?_
    refine ep_aload_n (i := 1) dX11_weightOf_151 rfl rfl ?_
    refine ep_bipush (v := 25) dX11_weightOf_152 (by decide) ?_
    refine ep_iaN (k := 25) dX11_weightOf_154 (hF.lt (by decide)) (hF.ka (by decide) rfl) (by omega) (by decide) ?_
    refine ep_topE (y := I 124 25) (by rw [hI11, z_set_ne (by decide), hI10, z_set_ne (by decide), hI9, z_set_ne (by decide), hI8, z_set_ne (by decide), hI7, z_set_ne (by decide), hI6, z_set_ne (by decide)]) ?_
    refine ep_topE (y := x 25) (hx _ (by omega)) ?_
    refine ep_bipush (v := 7) dX11_weightOf_155 (by decide) ?_
    refine ep_irem dX11_weightOf_157 (by decide) ?_
    refine ep_isN (k := 6) dX11_weightOf_158 (hF.lt (by decide)) (hF.lx (by decide)) (hF.ka (by decide) rfl) (by omega) (by decide) ?_
    refine ep_nmI (fun I12 hI12 => ?_)
    refine ep_aload_n (i := 0) dX11_weightOf_159 rfl rfl ?_
    refine ep_aload_n (i := 0) dX11_weightOf_160 rfl rfl ?_
    refine ep_getR dX11_weightOf_161 flX11_34 (hF.lt (by decide)) (hF.kc (by decide) rfl) hru ?_
    refine ep_aload_n (i := 0) dX11_weightOf_164 rfl rfl ?_
    refine ep_getI dX11_weightOf_165 flX11_189 (hF.lt (by decide)) (hF.kc (by decide) rfl) ?_
    refine ep_topE (y := I 112 18) (by rw [hI12, z_set_ne (by decide), hI11, z_set_ne (by decide), hI10, z_set_ne (by decide), hI9, z_set_ne (by decide), hI8, z_set_ne (by decide), hI7, z_set_ne (by decide), hI6, z_set_ne (by decide)]) ?_
    refine ep_topE (y := nI s) hs ?_
    refine ep_bipush (v := 40) dX11_weightOf_168 (by decide) ?_
    refine ep_callV (M1 := mX11_begin) (rest := []) dX11_weightOf_170 mlX11_120 mvX11_begin rfl (hF.lt (by decide)) (hF.kc (by decide) rfl) (Nat.le_of_ble_eq_true rfl) rfl (q_X11_begin (I := I12) (d + 305) hF (hF.lt (by decide)) (nI s) 40) (eb_vok rfl) ?_
    rintro _ _ ⟨rfl, rfl⟩
    show eb_P _ _ 173 [(5, .int (nI T.c)), (4, .int (z_alk (fun o => x (7 + o)) b T.c)), (3, .int (x b + T.pr tb)), (0, .ref 112), (1, .ref 124), (2, .int (nI b))] [] (n, sl, kd, z_bgn I12 (nI s) 40, L, z_rd Rf 120) _
    refine ep_nmI (fun I13 hI13 => ?_)
    refine ep_aload_n (i := 0) dX11_weightOf_173 rfl rfl ?_
    refine ep_iconst (v := 1) dX11_weightOf_174 (by decide) ?_
    refine ep_pI dX11_weightOf_175 plX11_182 (hF.lt (by decide)) (hF.lx (by decide)) (hF.kc (by decide) rfl) rfl rfl ?_
    refine ep_nmI (fun I14 hI14 => ?_)
    refine ep_aload_n (i := 0) dX11_weightOf_178 rfl rfl ?_
    refine ep_iconst (v := 0) dX11_weightOf_179 (by decide) ?_
    have hvv := (z_bgn_v (I := I12) (l := nI s) (tp := 40))
    have hP : zpc n kd I14 (z_rd Rf 120) 120 40 s 40 (I 120) := ⟨hF.tr (fun c k g => z_rd_ne g), z_rd_at, hF.ka (by decide) rfl, ⟨hs4, by decide⟩, ⟨by decide, by decide⟩, (by rw [hI14, z_set_nk (by decide), hI13]; exact hvv.1), ⟨(by rw [hI14, z_set_nk (by decide), hI13]; exact hvv.2.1), by decide⟩, (by rw [hI14, z_set_ne (by decide), hI13, z_bgn_ne (by decide), hI12, z_set_ne (by decide), hI11, z_set_ne (by decide), hI10, z_set_ne (by decide), hI9, z_set_ne (by decide), hI8, z_set_ne (by decide), hI7, z_set_ne (by decide), hI6, z_set_ne (by decide)]), hby⟩
    have ha0 : I14 121 0 = z_t7 (x b) (T.pr tb) (z_alk (fun o => x (7 + o)) b T.c) (z_ab (x (14 + b))) (z_ab (x 22)) (nI b) (x 25 - x 25 / 7 * 7) 0 := by rw [hI14, z_set_ne (by decide), hI13, z_bgn_ne (by decide), hI12, z_set_nk (by decide), hI11, z_set_nk (by decide), hI10, z_set_nk (by decide), hI9, z_set_nk (by decide), hI8, z_set_nk (by decide), hI7, z_set_nk (by decide), hI6, z_set_at]; rfl
    have ha1 : I14 121 1 = z_t7 (x b) (T.pr tb) (z_alk (fun o => x (7 + o)) b T.c) (z_ab (x (14 + b))) (z_ab (x 22)) (nI b) (x 25 - x 25 / 7 * 7) 1 := by rw [hI14, z_set_ne (by decide), hI13, z_bgn_ne (by decide), hI12, z_set_nk (by decide), hI11, z_set_nk (by decide), hI10, z_set_nk (by decide), hI9, z_set_nk (by decide), hI8, z_set_nk (by decide), hI7, z_set_at]; rfl
    have ha2 : I14 121 2 = z_t7 (x b) (T.pr tb) (z_alk (fun o => x (7 + o)) b T.c) (z_ab (x (14 + b))) (z_ab (x 22)) (nI b) (x 25 - x 25 / 7 * 7) 2 := by rw [hI14, z_set_ne (by decide), hI13, z_bgn_ne (by decide), hI12, z_set_nk (by decide), hI11, z_set_nk (by decide), hI10, z_set_nk (by decide), hI9, z_set_nk (by decide), hI8, z_set_at]; rfl
    have ha3 : I14 121 3 = z_t7 (x b) (T.pr tb) (z_alk (fun o => x (7 + o)) b T.c) (z_ab (x (14 + b))) (z_ab (x 22)) (nI b) (x 25 - x 25 / 7 * 7) 3 := by rw [hI14, z_set_ne (by decide), hI13, z_bgn_ne (by decide), hI12, z_set_nk (by decide), hI11, z_set_nk (by decide), hI10, z_set_nk (by decide), hI9, z_set_at]; rfl
    have ha4 : I14 121 4 = z_t7 (x b) (T.pr tb) (z_alk (fun o => x (7 + o)) b T.c) (z_ab (x (14 + b))) (z_ab (x 22)) (nI b) (x 25 - x 25 / 7 * 7) 4 := by rw [hI14, z_set_ne (by decide), hI13, z_bgn_ne (by decide), hI12, z_set_nk (by decide), hI11, z_set_nk (by decide), hI10, z_set_at]; rfl
    have ha5 : I14 121 5 = z_t7 (x b) (T.pr tb) (z_alk (fun o => x (7 + o)) b T.c) (z_ab (x (14 + b))) (z_ab (x 22)) (nI b) (x 25 - x 25 / 7 * 7) 5 := by rw [hI14, z_set_ne (by decide), hI13, z_bgn_ne (by decide), hI12, z_set_nk (by decide), hI11, z_set_at]; rfl
    have ha6 : I14 121 6 = z_t7 (x b) (T.pr tb) (z_alk (fun o => x (7 + o)) b T.c) (z_ab (x (14 + b))) (z_ab (x 22)) (nI b) (x 25 - x 25 / 7 * 7) 6 := by rw [hI14, z_set_ne (by decide), hI13, z_bgn_ne (by decide), hI12, z_set_at]; rfl
    have hA : (I14 112 19 = 1 ∧ ∀ q, q < 7 → I14 121 q = z_t7 (x b) (T.pr tb) (z_alk (fun o => x (7 + o)) b T.c) (z_ab (x (14 + b))) (z_ab (x 22)) (nI b) (x 25 - x 25 / 7 * 7) q) ∨ (I14 112 19 = 0 ∧ ∀ q, z_t7 (x b) (T.pr tb) (z_alk (fun o => x (7 + o)) b T.c) (z_ab (x (14 + b))) (z_ab (x 22)) (nI b) (x 25 - x 25 / 7 * 7) q = 0) := Or.inl ⟨by rw [hI14, z_set_at], fun q hq => by rcases (show q = 0 ∨ q = 1 ∨ q = 2 ∨ q = 3 ∨ q = 4 ∨ q = 5 ∨ q = 6 by omega) with rfl | rfl | rfl | rfl | rfl | rfl | rfl <;> assumption⟩
    refine ep_callV (M1 := mX11_held) (rest := []) dX11_weightOf_180 mlX11_169 mvX11_held rfl (hF.lt (by decide)) (hF.kc (by decide) rfl) (Nat.le_of_ble_eq_true rfl) rfl (q_X11_held0 hP hA (by rw [hI14, z_set_nk (by decide), hI13]; exact hvv.2.2.1) (by rw [hI14, z_set_nk (by decide), hI13]; exact hvv.2.2.2) d) (fun _ _ g => Or.inl (by rw [g.1])) ?_
    rintro _ _ ⟨rfl, rfl⟩
    show eb_P _ _ 183 [(5, .int (nI T.c)), (4, .int (z_alk (fun o => x (7 + o)) b T.c)), (3, .int (x b + T.pr tb)), (0, .ref 112), (1, .ref 124), (2, .int (nI b))] (.int (zp (zhr (I 120) s 40) (z_t7 (x b) (T.pr tb) (z_alk (fun o => x (7 + o)) b T.c) (z_ab (x (14 + b))) (z_ab (x 22)) (nI b) (x 25 - x 25 / 7 * 7)) 300 0 0 0 (0, -1)).1 :: []) (n, sl, kd, zpw I14 (zp (zhr (I 120) s 40) (z_t7 (x b) (T.pr tb) (z_alk (fun o => x (7 + o)) b T.c) (z_ab (x (14 + b))) (z_ab (x 22)) (nI b) (x 25 - x 25 / 7 * 7)) 300 0 0 0 (0, -1)).2, L, z_rd Rf 120) _
    refine ep_nmI (fun I15 hI15 => ?_)
    refine ep_topi (fun hv hhv => ?_)
    refine ep_istore_n (l' := [(3, .int hv), (5, .int (nI T.c)), (4, .int (z_alk (fun o => x (7 + o)) b T.c)), (0, .ref 112), (1, .ref 124), (2, .int (nI b))]) dX11_weightOf_183 rfl (by decide) rfl ?_
    refine ep_aload_n (i := 0) dX11_weightOf_184 rfl rfl ?_
    refine ep_iconst (v := 0) dX11_weightOf_185 (by decide) ?_
    refine ep_pI dX11_weightOf_186 plX11_182 (hF.lt (by decide)) (hF.lx (by decide)) (hF.kc (by decide) rfl) rfl rfl ?_
    refine ep_nmI (fun I16 hI16 => ?_)
    refine ep_iconst (v := 0) dX11_weightOf_189 (by decide) ?_
    refine ep_bipush (v := 20) dX11_weightOf_190 (by decide) ?_
    refine ep_iload_n (i := 3) dX11_weightOf_192 rfl rfl ?_
    refine ep_min dX11_weightOf_193 xmX11_197 (Nat.le_of_ble_eq_true rfl) ?_
    refine ep_max dX11_weightOf_196 xmX11_201 (Nat.le_of_ble_eq_true rfl) ?_
    refine ep_iret dX11_weightOf_199 rfl rfl ?_
    have hJ : ∀ c, c ≠ 112 → c ≠ 121 → I16 c = I c := fun c g112 g121 => by rw [hI16, z_set_ne (by omega), hI15, zpw_ne (by omega), hI14, z_set_ne (by omega), hI13, z_bgn_ne (by omega), hI12, z_set_ne (by omega), hI11, z_set_ne (by omega), hI10, z_set_ne (by omega), hI9, z_set_ne (by omega), hI8, z_set_ne (by omega), hI7, z_set_ne (by omega), hI6, z_set_ne (by omega)]
    have hJf : ∀ k, k ≠ 11 → k ≠ 12 → k ≠ 13 → k ≠ 14 → k ≠ 19 → I16 112 k = I 112 k := fun k g11 g12 g13 g14 g19 => by rw [hI16, z_set_nk (by omega), hI15, zpw_o (by omega) (by omega), hI14, z_set_nk (by omega), hI13, z_bgn_f (by omega), hI12, z_set_ne (by decide), hI11, z_set_ne (by decide), hI10, z_set_ne (by decide), hI9, z_set_ne (by decide), hI8, z_set_ne (by decide), hI7, z_set_ne (by decide), hI6, z_set_ne (by decide)]
    have e2 : zwl T.rv T.pr T.c x (x 22) (x 25) b = z_put hv 0 20 := by unfold zwl; rw [etb, nI_clamp (by omega), ← etb, ← z_alk_c (fun o => x (7 + o)) hb, ← hrv, hhv, zrvM, if_neg (by omega)]
    exact ⟨by rw [e2, ← z_put_mm _ _ _ (by decide)], _, _, rfl, ⟨fun c g112 g121 => hJ c g112 g121, fun k g11 g12 g13 g14 g19 => hJf k g11 g12 g13 g14 g19, fun c k g => z_rd_ne g⟩⟩
theorem y_X11_weightOf {n : Nat} {sl : Nat × Nat} {kd : Nat → Nat × Nat} {I : Nat → Nat → Int32} {L : Nat → Nat → Int64} {Rf : Nat → Nat → Option Nat} (d : Nat) {T : zT} (hM : zW n kd I Rf T) (hc7 : T.c ≤ 7) {H : Nat} {p : Nat} (hp : p = 113 ∨ p = 124) {x : Nat → Int32} (hx : ∀ k, k < 26 → I p k = x k) (hxr : zxr T.c H x) (hH : H ≤ 2147483648) {b : Nat} (hb : b < T.c) : zq mX11_weightOf (d + 306) [.ref 112, .ref p, .int (nI b)] (n, sl, kd, I, L, Rf) (eb_r (zwl T.rv T.pr T.c x (x 22) (x 25) b) (n, sl, kd, I, L, Rf)) := by
  intro f B I7 R7 h7
  have hM7 := hM.E h7
  obtain ⟨rc, hrc, hru, s, hs4, hs, hby, hrv⟩ := hM7.rv
  have hx7 : ∀ k, k < 26 → I7 p k = x k := fun k hk => by rw [h7.cell (c := p) (by unfold znc; omega)]; exact hx k hk
  refine zpS.q h7 ?_
  by_cases hs0 : s = 0
  · rcases hp with rfl | rfl
    · exact q_X11_weightOf_113rc d hM7 hc7 hx7 hxr hH hb hs hs4 hby hrv hs0
    · exact q_X11_weightOf_124rc d hM7 hc7 hx7 hxr hH hb hs hs4 hby hrv hs0
  · rcases hrc with rfl | rfl <;> rcases hp with rfl | rfl
    · exact q_X11_weightOf_113119 d hM7 hc7 hx7 hxr hH hb hru hs hs4 hby hrv (by omega)
    · exact q_X11_weightOf_124119 d hM7 hc7 hx7 hxr hH hb hru hs hs4 hby hrv (by omega)
    · exact q_X11_weightOf_113120 d hM7 hc7 hx7 hxr hH hb hru hs hs4 hby hrv (by omega)
    · exact q_X11_weightOf_124120 d hM7 hc7 hx7 hxr hH hb hru hs hs4 hby hrv (by omega)
