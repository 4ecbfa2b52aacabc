/-! Sea modulo scratch: a ship as a row of 26 numbers; weights and ballast by rows -/
def zrow (I : Nat → Nat → Int32) (j : Nat) : Nat → Int32 := fun k => if k < 7 then I (j + 1) k else if k < 14 then I (j + 2) (k - 7) else if k < 21 then I (j + 3) (k - 14) else if k = 21 then I j 4 else if k = 22 then I j 5 else if k = 23 then I j 6 else if k = 24 then I j 7 else I j 8
/-- what a brother weighs at a lean and an hour -/
def zwl (rv : (Nat → Int32) → Int32) (pr : Nat → Int32) (c : Nat) (x : Nat → Int32) (ln hr : Int32) (b : Nat) : Int32 := z_put (rv (z_t7 (x b) (pr (x (7 + b)).toNatClampNeg) (z_cnt (fun o => x (7 + o)) (x (7 + b)) c) (z_ab (x (14 + b))) (z_ab ln) (nI b) (hr - hr / 7 * 7))) 0 20
def zsl (rv : (Nat → Int32) → Int32) (pr : Nat → Int32) (c : Nat) (x : Nat → Int32) (ln hr : Int32) : Nat → Int32
  | 0 => 0
  | k + 1 => zsl rv pr c x ln hr k + zwl rv pr c x ln hr k * x (14 + k)
theorem zrow_g {I : Nat → Nat → Int32} {j k : Nat} (h : k < 7) : zrow I j k = I (j + 1) k := by unfold zrow; rw [if_pos h]
theorem zrow_t {I : Nat → Nat → Int32} {j k : Nat} (h : k < 7) : zrow I j (7 + k) = I (j + 2) k := by unfold zrow; rw [if_neg (by omega), if_pos (by omega)]; congr 1; omega
theorem zrow_p {I : Nat → Nat → Int32} {j k : Nat} (h : k < 7) : zrow I j (14 + k) = I (j + 3) k := by unfold zrow; rw [if_neg (by omega), if_neg (by omega), if_pos (by omega)]; congr 1; omega
theorem z_cnt_cg {t u : Nat → Int32} {x : Int32} {c : Nat} (h : ∀ o, o < c → t o = u o) : z_cnt t x c = z_cnt u x c := by
  induction c with
  | zero => rfl
  | succ c ih => rw [z_cnt, z_cnt, ih (fun o ho => h o (by omega)), h c (by omega)]
theorem z_wv_zwl {I : Nat → Nat → Int32} {a s0 j c b : Nat} {ln hr : Int32} (hc : c ≤ 7) (hb : b < 7) : z_wv I 5 a s0 j c ln hr b = zwl (fun th => z_val (I (a + 1)) th s0) (I 6) c (zrow I j) ln hr b := by
  unfold z_wv z_wa zwl
  rw [zrow_g hb, zrow_t hb, zrow_p hb, z_cnt_cg (t := fun o => zrow I j (7 + o)) (u := I (j + 2)) (fun o ho => zrow_t (by omega))]
theorem z_bv_zsl {I : Nat → Nat → Int32} {a s0 j c : Nat} {ln hr : Int32} (hc : c ≤ 7) (k : Nat) (hk : k ≤ 7) : z_bv I 5 a s0 j c ln hr k = zsl (fun th => z_val (I (a + 1)) th s0) (I 6) c (zrow I j) ln hr k := by
  induction k with
  | zero => rfl
  | succ k ih => rw [z_bv, zsl, ih (by omega), z_wv_zwl hc (by omega), zrow_p (by omega)]
theorem zwl_cg {rv : (Nat → Int32) → Int32} {pr pr' : Nat → Int32} {c : Nat} {x y : Nat → Int32} {ln hr : Int32} {b : Nat} (h : ∀ o, o < c → x o = y o ∧ x (7 + o) = y (7 + o) ∧ x (14 + o) = y (14 + o)) (hp : ∀ t, t < 6 → pr t = pr' t) (ht : ∀ o, o < c → ∃ t, t < 6 ∧ x (7 + o) = nI t) (hb : b < c) : zwl rv pr c x ln hr b = zwl rv pr' c y ln hr b := by
  obtain ⟨t, ht1, ht2⟩ := ht b hb
  unfold zwl
  rw [z_cnt_cg (t := fun o => x (7 + o)) (u := fun o => y (7 + o)) (fun o ho => (h o ho).2.1), ← (h b hb).1, ← (h b hb).2.1, ← (h b hb).2.2, ht2, nI_clamp (by omega), hp t ht1]
theorem zsl_cg {rv : (Nat → Int32) → Int32} {pr pr' : Nat → Int32} {c : Nat} {x y : Nat → Int32} {ln hr : Int32} (h : ∀ o, o < c → x o = y o ∧ x (7 + o) = y (7 + o) ∧ x (14 + o) = y (14 + o)) (hp : ∀ t, t < 6 → pr t = pr' t) (ht : ∀ o, o < c → ∃ t, t < 6 ∧ x (7 + o) = nI t) : ∀ k, k ≤ c → zsl rv pr c x ln hr k = zsl rv pr' c y ln hr k := by
  intro k
  induction k with
  | zero => intro _; rfl
  | succ k ih => intro hk; rw [zsl, zsl, ih (by omega), zwl_cg h hp ht (by omega), (h k (by omega)).2.2]
theorem zE.only {f : Nat} {B : Nat → Int32} {I I7 I1 : Nat → Nat → Int32} {Rf R7 : Nat → Nat → Option Nat} (h : zE f B I I7 Rf R7) (h1 : ∀ c, c ≠ 11 → c ≠ 16 → c ≠ 18 → I1 c = I7 c) : zE f B I I1 Rf R7 :=
  ⟨fun c k hs => by rw [h1 c (fun e => hs (by unfold zscr; omega)) (fun e => hs (by unfold zscr; omega)) (fun e => hs (by unfold zscr; omega))]; exact h.1 c k hs, h.2.1, h.2.2.cg (by rw [h1 5 (by decide) (by decide) (by decide)]) (h1 19 (by decide) (by decide) (by decide)) (h1 20 (by decide) (by decide) (by decide))⟩
/-- a whole cell is no scratch -/
def znc (c : Nat) : Prop := c ≠ 11 ∧ c ≠ 16 ∧ c ≠ 18 ∧ c ≠ 19 ∧ c ≠ 20 ∧ c ≠ 121 ∧ c ≠ 5 ∧ c ≠ 112
theorem zE.cell {f : Nat} {B : Nat → Int32} {I I7 : Nat → Nat → Int32} {Rf R7 : Nat → Nat → Option Nat} (h : zE f B I I7 Rf R7) {c : Nat} (hc : znc c) : I7 c = I c := funext fun k => h.1 c k (by unfold zscr; unfold znc at hc; omega)
theorem z_thk.tr {f : Nat} {B : Nat → Int32} {I I7 : Nat → Nat → Int32} {Rf R7 : Nat → Nat → Option Nat} (h : zE f B I I7 Rf R7) {j c : Nat} (hj : 21 ≤ j ∧ j ≤ 88) (hT : z_thk I j c) : z_thk I7 j c := by
  refine ⟨by rw [h.cell (c := j) (by unfold znc; omega)]; exact hT.1, hT.2.1, fun b hb => ?_⟩
  rw [h.cell (c := j + 2) (by unfold znc; omega)]; exact hT.2.2 b hb
theorem zrow_E {f : Nat} {B : Nat → Int32} {I I7 : Nat → Nat → Int32} {Rf R7 : Nat → Nat → Option Nat} (h : zE f B I I7 Rf R7) {j : Nat} (hj : 21 ≤ j ∧ j ≤ 88) : zrow I7 j = zrow I j := by
  unfold zrow
  rw [h.cell (c := j + 1) (by unfold znc; omega), h.cell (c := j + 2) (by unfold znc; omega), h.cell (c := j + 3) (by unfold znc; omega), h.cell (c := j) (by unfold znc; omega)]
theorem y_X6_weightAs {n : Nat} {sl : Nat × Nat} {kd : Nat → Nat × Nat} {I : Nat → Nat → Int32} {L : Nat → Nat → Int64} {Rf : Nat → Nat → Option Nat} (d : Nat) (hF : zF n kd Rf) {a : Nat} (hS : zS Rf a) {j c : Nat} (hj : j ∈ zsh) (hT : z_thk I j c) {s0 : Nat} (hs : I a 4 = nI s0) (hs4 : s0 ≤ 40) {b : Nat} (hb : b < 7) {th : Nat} (hth : th < 6) (k : Int32) : zq mX6_weightAs (d + 2) [.ref 5, .ref j, .int (nI b), .int (nI th), .int k] (n, sl, kd, I, L, Rf) (eb_r (z_wa (I (a + 1)) s0 (I (j + 1) b) (I 6 th) k (I (j + 3) b) (I j 5) (nI b) (I j 8)) (n, sl, kd, I, L, Rf)) := by
  intro f B I7 R7 h7
  have hjb := zsh_b j hj
  have ha : a = 8 ∨ a = 13 := hS.2.2
  have hF7 := hF.tr h7.2.1
  have hS7 := hS.tr h7.2.1
  have hT7 := hT.tr h7 hjb
  have e6 : I7 6 = I 6 := h7.cell (by unfold znc; omega)
  have ea : I7 a = I a := h7.cell (by unfold znc; omega)
  have ea1 : I7 (a + 1) = I (a + 1) := h7.cell (by unfold znc; omega)
  have ejr := zrow_E h7 hjb
  have ej : I7 j = I j := h7.cell (by unfold znc; omega)
  have ej1 : I7 (j + 1) = I (j + 1) := h7.cell (by unfold znc; omega)
  have ej2 : I7 (j + 2) = I (j + 2) := h7.cell (by unfold znc; omega)
  have ej3 : I7 (j + 3) = I (j + 3) := h7.cell (by unfold znc; omega)
  have hs7 : I7 a 4 = nI s0 := by rw [ea]; exact hs
  refine (q_X6_weightAs (I := I7) d (hF7.sea hS7) (hF7.shp hj) (by omega) hb hs7 hs4 hth k).to ?_
  rintro _ _ ⟨rfl, I1, rfl, ho⟩
  refine ⟨I, Rf, B, rfl, h7.only (fun c h11 h16 h18 => ho c (by omega)), rfl, ?_⟩
  show some (Value.int (z_wa (I7 (a + 1)) s0 (I7 (j + 1) b) (I7 6 th) k (I7 (j + 3) b) (I7 j 5) (nI b) (I7 j 8))) = _
  rw [ea1, e6, ej, ej1, ej3]
theorem y_X6_weight {n : Nat} {sl : Nat × Nat} {kd : Nat → Nat × Nat} {I : Nat → Nat → Int32} {L : Nat → Nat → Int64} {Rf : Nat → Nat → Option Nat} (d : Nat) (hF : zF n kd Rf) {a : Nat} (hS : zS Rf a) {j c : Nat} (hj : j ∈ zsh) (hT : z_thk I j c) {s0 : Nat} (hs : I a 4 = nI s0) (hs4 : s0 ≤ 40) {b : Nat} (hb : b < c) : zq mX6_weight (d + 3) [.ref 5, .ref j, .int (nI b)] (n, sl, kd, I, L, Rf) (eb_r (zwl (fun th => z_val (I (a + 1)) th s0) (I 6) c (zrow I j) (I j 5) (I j 8) b) (n, sl, kd, I, L, Rf)) := by
  intro f B I7 R7 h7
  have hjb := zsh_b j hj
  have ha : a = 8 ∨ a = 13 := hS.2.2
  have hF7 := hF.tr h7.2.1
  have hS7 := hS.tr h7.2.1
  have hT7 := hT.tr h7 hjb
  have e6 : I7 6 = I 6 := h7.cell (by unfold znc; omega)
  have ea : I7 a = I a := h7.cell (by unfold znc; omega)
  have ea1 : I7 (a + 1) = I (a + 1) := h7.cell (by unfold znc; omega)
  have ejr := zrow_E h7 hjb
  have ej : I7 j = I j := h7.cell (by unfold znc; omega)
  have ej1 : I7 (j + 1) = I (j + 1) := h7.cell (by unfold znc; omega)
  have ej2 : I7 (j + 2) = I (j + 2) := h7.cell (by unfold znc; omega)
  have ej3 : I7 (j + 3) = I (j + 3) := h7.cell (by unfold znc; omega)
  have hs7 : I7 a 4 = nI s0 := by rw [ea]; exact hs
  have hc7 := hT.2.1
  refine (q_X6_weight (I := I7) d (hF7.sea hS7) (hF7.shp hj) (by omega) hT7 hs7 hs4 hb).to ?_
  rintro _ _ ⟨rfl, I1, rfl, ho⟩
  refine ⟨I, Rf, B, rfl, h7.only (fun c h11 h16 h18 => ho c (by omega)), rfl, ?_⟩
  show some (Value.int (z_wv I7 5 a s0 j c (I7 j 5) (I7 j 8) b)) = _
  rw [z_wv_zwl hc7 (by omega), ea1, e6, ej, ejr]
/-- a new stamp: the memo says nothing, so it says whatever one likes -/
theorem zInv_new {f : Nat} {B C : Nat → Int32} {I7 : Nat → Nat → Int32} (h : zInv (f + 1) B I7) : zInv f C (z_set I7 5 8 (I7 5 8 + 1)) := by
  obtain ⟨⟨st, ⟨h1, h2⟩, h3⟩, _⟩ := h
  have e8 : z_set I7 5 8 (I7 5 8 + 1) 5 8 = nI (st + 1) := by simp [z_set, h1]; exact nI_1 st
  have e20 : z_set I7 5 8 (I7 5 8 + 1) 20 = I7 20 := z_set_ne (by decide)
  refine ⟨⟨st + 1, ⟨e8, fun q hq => ?_⟩, by omega⟩, fun q hq e => ?_⟩
  · obtain ⟨v, hv, ev⟩ := h2 q hq
    exact ⟨v, by omega, by rw [e20]; exact ev⟩
  · obtain ⟨v, hv, ev⟩ := h2 q hq
    rw [e20, e8] at e
    have ev : I7 20 q = nI v := ev
    have : v = st + 1 := z_nIinj (ev.symm.trans e) (by omega) (by omega)
    omega
theorem zE_new {f : Nat} {B C : Nat → Int32} {I I7 : Nat → Nat → Int32} {Rf R7 : Nat → Nat → Option Nat} (h : zE (f + 1) B I I7 Rf R7) : zE f C I (z_set I7 5 8 (I7 5 8 + 1)) Rf R7 :=
  ⟨fun c k hs => by
    have : ¬ (c = 5 ∧ k = 8) := fun e => hs (by unfold zscr; omega)
    simp only [z_set]; rw [if_neg this]; exact h.1 c k hs, h.2.1, zInv_new h.2.2⟩
theorem y_X6_begin {n : Nat} {sl : Nat × Nat} {kd : Nat → Nat × Nat} {I : Nat → Nat → Int32} {L : Nat → Nat → Int64} {Rf : Nat → Nat → Option Nat} (d : Nat) (hF : zF n kd Rf) {a : Nat} (hS : zS Rf a) (f : Nat) (B C : Nat → Int32) : ez_Q (f + 1) B f (fun D => D = C) mX6_begin d [.ref 5] (n, sl, kd, I, L, Rf) (eb_v (n, sl, kd, I, L, Rf)) := by
  intro I7 R7 h7
  refine (q_X6_begin (I := I7) d ((hF.tr h7.2.1).sea (hS.tr h7.2.1))).to ?_
  rintro _ _ ⟨rfl, rfl⟩
  exact ⟨I, Rf, C, rfl, zE_new h7, rfl, rfl⟩
theorem y_X6_ballastInHours {n : Nat} {sl : Nat × Nat} {kd : Nat → Nat × Nat} {I : Nat → Nat → Int32} {L : Nat → Nat → Int64} {Rf : Nat → Nat → Option Nat} (d : Nat) (hF : zF n kd Rf) {a : Nat} (hS : zS Rf a) {j c : Nat} (hj : j ∈ zsh) (hT : z_thk I j c) {s0 : Nat} (hs : I a 4 = nI s0) (hs4 : s0 ≤ 40) (hrg : z_rg (I j 5)) {hr : Nat} (hhr : I j 8 = nI hr) (hhr2 : hr < 2147483648) {B : Nat → Int32} (hB : B (z_pl I a (z_ab (I j 5)).toNatClampNeg hr) = zsl (fun th => z_val (I (a + 1)) th s0) (I 6) c (zrow I j) (I j 5) (I j 8) c) (f : Nat) : ez_Q f B f (fun C => C = B) mX6_ballastInHours (d + 4) [.ref 5, .ref j] (n, sl, kd, I, L, Rf) (eb_r (zsl (fun th => z_val (I (a + 1)) th s0) (I 6) c (zrow I j) (I j 5) (I j 8) c) (n, sl, kd, I, L, Rf)) := by
  intro I7 R7 h7
  have hjb := zsh_b j hj
  have ha : a = 8 ∨ a = 13 := hS.2.2
  have hF7 := hF.tr h7.2.1
  have hS7 := hS.tr h7.2.1
  have hT7 := hT.tr h7 hjb
  have e6 : I7 6 = I 6 := h7.cell (by unfold znc; omega)
  have ea : I7 a = I a := h7.cell (by unfold znc; omega)
  have ea1 : I7 (a + 1) = I (a + 1) := h7.cell (by unfold znc; omega)
  have ejr := zrow_E h7 hjb
  have ej : I7 j = I j := h7.cell (by unfold znc; omega)
  have ej1 : I7 (j + 1) = I (j + 1) := h7.cell (by unfold znc; omega)
  have ej2 : I7 (j + 2) = I (j + 2) := h7.cell (by unfold znc; omega)
  have ej3 : I7 (j + 3) = I (j + 3) := h7.cell (by unfold znc; omega)
  have hs7 : I7 a 4 = nI s0 := by rw [ea]; exact hs
  have hc7 := hT.2.1
  obtain ⟨st, hst, hst2⟩ := h7.2.2.1
  obtain ⟨hal2, hal⟩ := z_ab_rg hrg
  have hB7 : B (z_pl I7 a (z_ab (I j 5)).toNatClampNeg hr) = z_bs I7 5 a s0 j c c := by
    rw [z_bs_bv, z_bv_zsl hc7 c hc7, ea1, e6, ej, ejr, ← hB]
    unfold z_pl; rw [ea]
  refine (q_X6_ballastInHours (I := I7) d (hF7.sea hS7) (hF7.shp hj) (by omega) hT7 hs7 hs4 (by rw [ej]; exact hal) hal2 (by rw [ej]; exact hhr) hhr2 hB7 h7.2.2.2 hst).to ?_
  rintro _ _ ⟨rfl, I1, rfl, ho, hmm, hst1⟩
  refine ⟨I, Rf, B, rfl, ⟨fun c k hsc => ?_, h7.2.1, ⟨st, hst1, hst2⟩, hmm⟩, rfl, ?_⟩
  · show I1 c k = I c k
    rw [ho c (fun e => hsc (by unfold zscr; omega))]; exact h7.1 c k hsc
  · show some (Value.int (B (z_pl I7 a (z_ab (I j 5)).toNatClampNeg hr))) = _
    rw [hB7, z_bs_bv, z_bv_zsl hc7 c hc7, ea1, e6, ej, ejr]
/-- five numbers of a ship set -/
def z_sp (I : Nat → Nat → Int32) (j : Nat) (S : z_S) : Nat → Nat → Int32 := fun a q => if a = j then (if q = 4 then S.1 else if q = 5 then S.2.1 else if q = 6 then S.2.2.1 else if q = 7 then S.2.2.2.1 else if q = 8 then nI S.2.2.2.2 else I a q) else I a q
/-- the hours by rows -/
def zhS (I : Nat → Nat → Int32) (j hr : Nat) : z_S := (I j 4, I j 5, I j 6, I j 7, hr)
def zbl (rv : (Nat → Int32) → Int32) (pr : Nat → Int32) (c : Nat) (x : Nat → Int32) : Int32 → Nat → Int32 := fun ln hr => zsl rv pr c x ln (nI hr) c
theorem z_hs_bl {wd : Nat → Int32} {b1 b2 : Int32 → Nat → Int32} {S : z_S} (hrg : z_rg S.2.1) (hb : ∀ ln hr, z_rg ln → hr < 2147483648 → b1 ln hr = b2 ln hr) (k : Nat) (hk : S.2.2.2.2 + k ≤ 2147483648) : z_hs wd b1 S k = z_hs wd b2 S k ∧ z_hts wd b1 S k = z_hts wd b2 S k := by
  induction k with
  | zero => exact ⟨rfl, rfl⟩
  | succ k ih =>
    have ih := ih (by omega)
    have hl := z_hs_rg wd b2 S hrg k
    have hh := z_hs_hr wd b2 S k
    have e : z_hl wd b1 (z_hs wd b2 S k) = z_hl wd b2 (z_hs wd b2 S k) := by unfold z_hl; rw [hb _ _ hl (by omega)]
    refine ⟨?_, ?_⟩
    · rw [z_hs, z_hs, ih.1]; unfold z_h z_hg; rw [e]
    · rw [z_hts, z_hts, ih.1, ih.2]; unfold z_ht; rw [e]
theorem y_X6_letHoursGo {n : Nat} {sl : Nat × Nat} {kd : Nat → Nat × Nat} {I : Nat → Nat → Int32} {L : Nat → Nat → Int64} {Rf : Nat → Nat → Option Nat} (d : Nat) (hF : zF n kd Rf) {a : Nat} (hS : zS Rf a) {j c : Nat} (hj : j ∈ zsh) (hT : z_thk I j c) {s0 : Nat} (hs : I a 4 = nI s0) (hs4 : s0 ≤ 40) (hrg : z_rg (I j 5)) {hr : Nat} (hhr : I j 8 = nI hr) {m : Nat} (hm : I 5 2 = nI m) (hm0 : 0 < m) (hm2 : m ≤ 20) {N : Nat} (hN : hr + N < 2147483648) {B : Nat → Int32} (hB : ∀ (ln : Int32) (h : Nat), z_rg ln → h < 2147483648 → B (z_pl I a (z_ab ln).toNatClampNeg h) = zbl (fun th => z_val (I (a + 1)) th s0) (I 6) c (zrow I j) ln h) (f : Nat) : ez_Q f B f (fun C => C = B) mX6_letHoursGo (d + 5) [.ref 5, .ref j, .int (nI N)] (n, sl, kd, I, L, Rf) (eb_r (z_hts (fun h => I 7 (h % m)) (zbl (fun th => z_val (I (a + 1)) th s0) (I 6) c (zrow I j)) (zhS I j hr) N) (n, sl, kd, z_sp I j (z_hs (fun h => I 7 (h % m)) (zbl (fun th => z_val (I (a + 1)) th s0) (I 6) c (zrow I j)) (zhS I j hr) N), L, Rf)) := by
  intro I7 R7 h7
  have hjb := zsh_b j hj
  have ha : a = 8 ∨ a = 13 := hS.2.2
  have hF7 := hF.tr h7.2.1
  have hS7 := hS.tr h7.2.1
  have hT7 := hT.tr h7 hjb
  have e6 : I7 6 = I 6 := h7.cell (by unfold znc; omega)
  have ea : I7 a = I a := h7.cell (by unfold znc; omega)
  have ea1 : I7 (a + 1) = I (a + 1) := h7.cell (by unfold znc; omega)
  have ejr := zrow_E h7 hjb
  have ej : I7 j = I j := h7.cell (by unfold znc; omega)
  have ej1 : I7 (j + 1) = I (j + 1) := h7.cell (by unfold znc; omega)
  have ej2 : I7 (j + 2) = I (j + 2) := h7.cell (by unfold znc; omega)
  have ej3 : I7 (j + 3) = I (j + 3) := h7.cell (by unfold znc; omega)
  have hs7 : I7 a 4 = nI s0 := by rw [ea]; exact hs
  have hc7 := hT.2.1
  have e7 : I7 7 = I 7 := h7.cell (by unfold znc; omega)
  obtain ⟨st, hst, hst2⟩ := h7.2.2.1
  have hpl : ∀ x y, z_pl I7 a x y = z_pl I a x y := fun x y => by unfold z_pl; rw [ea]
  have hBB : z_BB I7 5 a s0 j c B := fun ln h hl h2 => by rw [hpl, hB ln h hl h2, z_bv_zsl hc7 c hc7, ea1, e6, ejr]; rfl
  have hbl : ∀ ln h, z_rg ln → h < 2147483648 → z_blB I7 a B ln h = zbl (fun th => z_val (I (a + 1)) th s0) (I 6) c (zrow I j) ln h := fun ln h hl h2 => by unfold z_blB; rw [hpl]; exact hB ln h hl h2
  have hwd : z_wd I7 5 m = fun h => I 7 (h % m) := by unfold z_wd; rw [show (5 + 2 : Nat) = 7 from rfl, e7]
  have hSI : z_SI I7 j (zhS I j hr) := by rw [z_SI, ej]; exact ⟨rfl, rfl, rfl, rfl, hhr⟩
  obtain ⟨hq1, hq2⟩ := z_hs_bl (wd := fun h => I 7 (h % m)) (S := zhS I j hr) hrg hbl N (by show hr + N ≤ _; omega)
  refine (q_X6_letHoursGo (I := I7) d (hF7.sea hS7) (hF7.shp hj) (by omega) hT7 hs7 hs4 ((h7.1 5 2 (by unfold zscr; omega)).trans hm) hm0 hm2 hBB h7.2.2.2 hst hSI hrg hN).to ?_
  rintro _ _ ⟨rfl, I1, rfl, ho, hsi, h3, hmm, hst1⟩
  rw [hwd, hq1] at hsi
  refine ⟨_, Rf, B, rfl, ⟨fun c k hsc => ?_, h7.2.1, ⟨st, hst1, hst2⟩, hmm⟩, rfl, ?_⟩
  · show I1 c k = z_sp I j _ c k
    unfold z_sp
    by_cases e : c = j
    · subst e
      rw [if_pos rfl]
      by_cases k4 : k = 4
      · rw [if_pos k4, k4]; exact hsi.1
      · rw [if_neg k4]
        by_cases k5 : k = 5
        · rw [if_pos k5, k5]; exact hsi.2.1
        · rw [if_neg k5]
          by_cases k6 : k = 6
          · rw [if_pos k6, k6]; exact hsi.2.2.1
          · rw [if_neg k6]
            by_cases k7 : k = 7
            · rw [if_pos k7, k7]; exact hsi.2.2.2.1
            · rw [if_neg k7]
              by_cases k8 : k = 8
              · rw [if_pos k8, k8]; exact hsi.2.2.2.2
              · rw [if_neg k8, h3 k (by omega), ej]
    · rw [if_neg e, ho c (fun e2 => hsc (by unfold z_hc at e2; unfold zscr; omega))]; exact h7.1 c k hsc
  · show some (Value.int (z_hts (z_wd I7 5 m) (z_blB I7 a B) (zhS I j hr) N)) = _
    rw [hwd, hq2]
theorem y_X6_ballast {n : Nat} {sl : Nat × Nat} {kd : Nat → Nat × Nat} {I : Nat → Nat → Int32} {L : Nat → Nat → Int64} {Rf : Nat → Nat → Option Nat} (d : Nat) (hF : zF n kd Rf) {a : Nat} (hS : zS Rf a) {j c : Nat} (hj : j ∈ zsh) (hT : z_thk I j c) {s0 : Nat} (hs : I a 4 = nI s0) (hs4 : s0 ≤ 40) (hrg : z_rg (I j 5)) {hr : Nat} (hhr : I j 8 = nI hr) (hhr2 : hr < 2147483648) (f : Nat) (B : Nat → Int32) : ez_Q (f + 1) B f (fun _ => True) mX6_ballast (d + 5) [.ref 5, .ref j] (n, sl, kd, I, L, Rf) (eb_r (zsl (fun th => z_val (I (a + 1)) th s0) (I 6) c (zrow I j) (I j 5) (I j 8) c) (n, sl, kd, I, L, Rf)) := by
  refine ez_meth pn_X.2.2.2.2.2.2.1 (Nat.le_of_ble_eq_true rfl) ?_
  show ez_P _ _ _ _ mX6_ballast (d + 5) 0 [(0, .ref 5), (1, .ref j)] [] (n, sl, kd, I, L, Rf) _
  refine ez_aload_n (i := 0) dX6_ballast_0 rfl rfl ?_
  refine ez_callVm (M1 := mX6_begin) (rest := []) dX6_ballast_1 mlX6_93 mvX6_begin rfl (hF.lt (by decide)) (hF.kc (by decide) rfl) (Nat.le_of_ble_eq_true rfl) rfl (y_X6_begin (d + 4) hF hS f B (fun _ => zsl (fun th => z_val (I (a + 1)) th s0) (I 6) c (zrow I j) (I j 5) (I j 8) c)) (eb_vok rfl) ?_
  rintro _ _ C rfl ⟨rfl, rfl⟩
  show ez_P _ _ _ _ _ _ 4 [(0, .ref 5), (1, .ref j)] [] (n, sl, kd, I, L, Rf) _
  refine ez_aload_n (i := 0) dX6_ballast_4 rfl rfl ?_
  refine ez_aload_n (i := 1) dX6_ballast_5 rfl rfl ?_
  refine ez_callVm (M1 := mX6_ballastInHours) (rest := []) dX6_ballast_6 mlX6_96 mvX6_ballastInHours rfl (hF.lt (by decide)) (hF.kc (by decide) rfl) (Nat.le_of_ble_eq_true rfl) rfl (y_X6_ballastInHours d hF hS hj hT hs hs4 hrg hhr hhr2 rfl f) eb_rok ?_
  rintro _ _ C rfl ⟨rfl, rfl⟩
  refine ez_iret dX6_ballast_9 rfl rfl ?_
  exact ⟨rfl, rfl⟩
