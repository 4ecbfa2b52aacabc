/-! THE STATE that class and reference share, and how it lies in each -/
def zT : Type := (List Int32) × (List Int64) × (Nat → Int32) × (Nat) × (Nat → Int32) × ((Nat → Int32) → Int32) × (Nat) × (Nat → Int32) × (List (Nat → Int32)) × (Nat → Option (Nat → Int32)) × (List (Int32 × Int32 × Int32)) × (List (Int32 × Int32))
abbrev zT.tx (T : zT) : List Int32 := T.1
abbrev zT.rw (T : zT) : List Int64 := T.2.1
abbrev zT.pr (T : zT) : Nat → Int32 := T.2.2.1
abbrev zT.wm (T : zT) : Nat := T.2.2.2.1
abbrev zT.wd (T : zT) : Nat → Int32 := T.2.2.2.2.1
abbrev zT.rv (T : zT) : (Nat → Int32) → Int32 := T.2.2.2.2.2.1
abbrev zT.c (T : zT) : Nat := T.2.2.2.2.2.2.1
abbrev zT.x (T : zT) : Nat → Int32 := T.2.2.2.2.2.2.2.1
abbrev zT.un (T : zT) : List (Nat → Int32) := T.2.2.2.2.2.2.2.2.1
abbrev zT.kp (T : zT) : Nat → Option (Nat → Int32) := T.2.2.2.2.2.2.2.2.2.1
abbrev zT.sn (T : zT) : List (Int32 × Int32 × Int32) := T.2.2.2.2.2.2.2.2.2.2.1
abbrev zT.hd (T : zT) : List (Int32 × Int32) := T.2.2.2.2.2.2.2.2.2.2.2
abbrev zT.w_tx (T : zT) (v : List Int32) : zT := (v, T.rw, T.pr, T.wm, T.wd, T.rv, T.c, T.x, T.un, T.kp, T.sn, T.hd)
abbrev zT.w_rw (T : zT) (v : List Int64) : zT := (T.tx, v, T.pr, T.wm, T.wd, T.rv, T.c, T.x, T.un, T.kp, T.sn, T.hd)
abbrev zT.w_pr (T : zT) (v : Nat → Int32) : zT := (T.tx, T.rw, v, T.wm, T.wd, T.rv, T.c, T.x, T.un, T.kp, T.sn, T.hd)
abbrev zT.w_wm (T : zT) (v : Nat) : zT := (T.tx, T.rw, T.pr, v, T.wd, T.rv, T.c, T.x, T.un, T.kp, T.sn, T.hd)
abbrev zT.w_wd (T : zT) (v : Nat → Int32) : zT := (T.tx, T.rw, T.pr, T.wm, v, T.rv, T.c, T.x, T.un, T.kp, T.sn, T.hd)
abbrev zT.w_rv (T : zT) (v : (Nat → Int32) → Int32) : zT := (T.tx, T.rw, T.pr, T.wm, T.wd, v, T.c, T.x, T.un, T.kp, T.sn, T.hd)
abbrev zT.w_c (T : zT) (v : Nat) : zT := (T.tx, T.rw, T.pr, T.wm, T.wd, T.rv, v, T.x, T.un, T.kp, T.sn, T.hd)
abbrev zT.w_x (T : zT) (v : Nat → Int32) : zT := (T.tx, T.rw, T.pr, T.wm, T.wd, T.rv, T.c, v, T.un, T.kp, T.sn, T.hd)
abbrev zT.w_un (T : zT) (v : List (Nat → Int32)) : zT := (T.tx, T.rw, T.pr, T.wm, T.wd, T.rv, T.c, T.x, v, T.kp, T.sn, T.hd)
abbrev zT.w_kp (T : zT) (v : Nat → Option (Nat → Int32)) : zT := (T.tx, T.rw, T.pr, T.wm, T.wd, T.rv, T.c, T.x, T.un, v, T.sn, T.hd)
abbrev zT.w_sn (T : zT) (v : List (Int32 × Int32 × Int32)) : zT := (T.tx, T.rw, T.pr, T.wm, T.wd, T.rv, T.c, T.x, T.un, T.kp, v, T.hd)
abbrev zT.w_hd (T : zT) (v : List (Int32 × Int32)) : zT := (T.tx, T.rw, T.pr, T.wm, T.wd, T.rv, T.c, T.x, T.un, T.kp, T.sn, v)
/-- a row of a ship with c brothers, its hour below H -/
def zxr (c H : Nat) (x : Nat → Int32) : Prop := (∀ b, b < c → ∃ k, k < 10 ∧ x b = nI k) ∧ (∀ b, b < c → ∃ k, k < 6 ∧ x (7 + b) = nI k) ∧ (∀ b, b < c → ∃ k, k < 11 ∧ x (14 + b) = nI k - 5) ∧ (∃ k, k < 10 ∧ x 21 = nI k) ∧ (z_rg (x 22)) ∧ (∃ k, k < 10000 ∧ x 23 = nI k) ∧ (∃ k, k < 1000 ∧ x 24 = nI k) ∧ (∃ k, k < H ∧ x 25 = nI k)
theorem zxr.g {c H : Nat} {x : Nat → Int32} (h : zxr c H x) : ∀ b, b < c → ∃ k, k < 10 ∧ x b = nI k := h.1
theorem zxr.t {c H : Nat} {x : Nat → Int32} (h : zxr c H x) : ∀ b, b < c → ∃ k, k < 6 ∧ x (7 + b) = nI k := h.2.1
theorem zxr.p {c H : Nat} {x : Nat → Int32} (h : zxr c H x) : ∀ b, b < c → ∃ k, k < 11 ∧ x (14 + b) = nI k - 5 := h.2.2.1
theorem zxr.s {c H : Nat} {x : Nat → Int32} (h : zxr c H x) : ∃ k, k < 10 ∧ x 21 = nI k := h.2.2.2.1
theorem zxr.l {c H : Nat} {x : Nat → Int32} (h : zxr c H x) : z_rg (x 22) := h.2.2.2.2.1
theorem zxr.lg {c H : Nat} {x : Nat → Int32} (h : zxr c H x) : ∃ k, k < 10000 ∧ x 23 = nI k := h.2.2.2.2.2.1
theorem zxr.ov {c H : Nat} {x : Nat → Int32} (h : zxr c H x) : ∃ k, k < 1000 ∧ x 24 = nI k := h.2.2.2.2.2.2.1
theorem zxr.h {c H : Nat} {x : Nat → Int32} (h : zxr c H x) : ∃ k, k < H ∧ x 25 = nI k := h.2.2.2.2.2.2.2
def zOk (H : Nat) (T : zT) : Prop := (T.tx.length ≤ 80) ∧ (∀ k, k < T.tx.length → ∃ v, v < 256 ∧ T.tx.getD k 0 = nI v) ∧ (T.rw.length ≤ 8) ∧ (∀ t, t < 6 → ∃ v, v < 10 ∧ T.pr t = nI v) ∧ (0 < T.wm ∧ T.wm ≤ 20) ∧ (∀ k, k < T.wm → ∃ v, v < 19 ∧ T.wd k = nI v - 9) ∧ (T.c ≤ 7) ∧ (zxr T.c H T.x) ∧ (T.un.length ≤ 12) ∧ (∀ y ∈ T.un, zxr T.c H y) ∧ (∀ i y, T.kp i = some y → zxr T.c H y) ∧ (T.sn.length ≤ 10) ∧ (∀ q ∈ T.sn, (-9 ≤ q.1 ∧ q.1 ≤ 9) ∧ (0 ≤ q.2.1 ∧ q.2.1 ≤ 9) ∧ (-20 ≤ q.2.2 ∧ q.2.2 ≤ 20)) ∧ (T.hd.length ≤ 12) ∧ (∀ q ∈ T.hd, (0 ≤ q.1 ∧ q.1 ≤ 4) ∧ (0 ≤ q.2 ∧ q.2 ≤ 9)) ∧ (∀ th th', (∀ q, q < 7 → th q = th' q) → T.rv th = T.rv th')
theorem zOk.txl {H : Nat} {T : zT} (h : zOk H T) : T.tx.length ≤ 80 := h.1
theorem zOk.tx {H : Nat} {T : zT} (h : zOk H T) : ∀ k, k < T.tx.length → ∃ v, v < 256 ∧ T.tx.getD k 0 = nI v := h.2.1
theorem zOk.rwl {H : Nat} {T : zT} (h : zOk H T) : T.rw.length ≤ 8 := h.2.2.1
theorem zOk.pr {H : Nat} {T : zT} (h : zOk H T) : ∀ t, t < 6 → ∃ v, v < 10 ∧ T.pr t = nI v := h.2.2.2.1
theorem zOk.wm {H : Nat} {T : zT} (h : zOk H T) : 0 < T.wm ∧ T.wm ≤ 20 := h.2.2.2.2.1
theorem zOk.wd {H : Nat} {T : zT} (h : zOk H T) : ∀ k, k < T.wm → ∃ v, v < 19 ∧ T.wd k = nI v - 9 := h.2.2.2.2.2.1
theorem zOk.c {H : Nat} {T : zT} (h : zOk H T) : T.c ≤ 7 := h.2.2.2.2.2.2.1
theorem zOk.x {H : Nat} {T : zT} (h : zOk H T) : zxr T.c H T.x := h.2.2.2.2.2.2.2.1
theorem zOk.unl {H : Nat} {T : zT} (h : zOk H T) : T.un.length ≤ 12 := h.2.2.2.2.2.2.2.2.1
theorem zOk.un {H : Nat} {T : zT} (h : zOk H T) : ∀ y ∈ T.un, zxr T.c H y := h.2.2.2.2.2.2.2.2.2.1
theorem zOk.kp {H : Nat} {T : zT} (h : zOk H T) : ∀ i y, T.kp i = some y → zxr T.c H y := h.2.2.2.2.2.2.2.2.2.2.1
theorem zOk.snl {H : Nat} {T : zT} (h : zOk H T) : T.sn.length ≤ 10 := h.2.2.2.2.2.2.2.2.2.2.2.1
theorem zOk.sn {H : Nat} {T : zT} (h : zOk H T) : ∀ q ∈ T.sn, (-9 ≤ q.1 ∧ q.1 ≤ 9) ∧ (0 ≤ q.2.1 ∧ q.2.1 ≤ 9) ∧ (-20 ≤ q.2.2 ∧ q.2.2 ≤ 20) := h.2.2.2.2.2.2.2.2.2.2.2.2.1
theorem zOk.hdl {H : Nat} {T : zT} (h : zOk H T) : T.hd.length ≤ 12 := h.2.2.2.2.2.2.2.2.2.2.2.2.2.1
theorem zOk.hd {H : Nat} {T : zT} (h : zOk H T) : ∀ q ∈ T.hd, (0 ≤ q.1 ∧ q.1 ≤ 4) ∧ (0 ≤ q.2 ∧ q.2 ≤ 9) := h.2.2.2.2.2.2.2.2.2.2.2.2.2.2.1
theorem zOk.rv {H : Nat} {T : zT} (h : zOk H T) : ∀ th th', (∀ q, q < 7 → th q = th' q) → T.rv th = T.rv th' := h.2.2.2.2.2.2.2.2.2.2.2.2.2.2.2
/-- a ship's cells hold a row -/
def zcS (I : Nat → Nat → Int32) (j c : Nat) (x : Nat → Int32) : Prop := (I j 3 = nI c) ∧ (∀ b, b < c → I (j + 1) b = x b) ∧ (∀ b, b < c → I (j + 2) b = x (7 + b)) ∧ (∀ b, b < c → I (j + 3) b = x (14 + b)) ∧ (I j 4 = x 21) ∧ (I j 5 = x 22) ∧ (I j 6 = x 23) ∧ (I j 7 = x 24) ∧ (I j 8 = x 25)
theorem zcS.cr {I : Nat → Nat → Int32} {j c : Nat} {x : Nat → Int32} (h : zcS I j c x) : I j 3 = nI c := h.1
theorem zcS.g {I : Nat → Nat → Int32} {j c : Nat} {x : Nat → Int32} (h : zcS I j c x) : ∀ b, b < c → I (j + 1) b = x b := h.2.1
theorem zcS.t {I : Nat → Nat → Int32} {j c : Nat} {x : Nat → Int32} (h : zcS I j c x) : ∀ b, b < c → I (j + 2) b = x (7 + b) := h.2.2.1
theorem zcS.p {I : Nat → Nat → Int32} {j c : Nat} {x : Nat → Int32} (h : zcS I j c x) : ∀ b, b < c → I (j + 3) b = x (14 + b) := h.2.2.2.1
theorem zcS.s {I : Nat → Nat → Int32} {j c : Nat} {x : Nat → Int32} (h : zcS I j c x) : I j 4 = x 21 := h.2.2.2.2.1
theorem zcS.l {I : Nat → Nat → Int32} {j c : Nat} {x : Nat → Int32} (h : zcS I j c x) : I j 5 = x 22 := h.2.2.2.2.2.1
theorem zcS.lg {I : Nat → Nat → Int32} {j c : Nat} {x : Nat → Int32} (h : zcS I j c x) : I j 6 = x 23 := h.2.2.2.2.2.2.1
theorem zcS.ov {I : Nat → Nat → Int32} {j c : Nat} {x : Nat → Int32} (h : zcS I j c x) : I j 7 = x 24 := h.2.2.2.2.2.2.2.1
theorem zcS.h {I : Nat → Nat → Int32} {j c : Nat} {x : Nat → Int32} (h : zcS I j c x) : I j 8 = x 25 := h.2.2.2.2.2.2.2.2
theorem zcS.cg {I I1 : Nat → Nat → Int32} {j c : Nat} {x : Nat → Int32} (h : zcS I j c x) (h0 : I1 j = I j) (h1 : I1 (j + 1) = I (j + 1)) (h2 : I1 (j + 2) = I (j + 2)) (h3 : I1 (j + 3) = I (j + 3)) : zcS I1 j c x := by
  refine ⟨?_, ?_, ?_, ?_, ?_, ?_, ?_, ?_, ?_⟩
  · rw [h0]; exact h.cr
  · rw [h1]; exact h.g
  · rw [h2]; exact h.t
  · rw [h3]; exact h.p
  · rw [h0]; exact h.s
  · rw [h0]; exact h.l
  · rw [h0]; exact h.lg
  · rw [h0]; exact h.ov
  · rw [h0]; exact h.h
/-- a rule's cells hold a rule -/
def zRu (I : Nat → Nat → Int32) (a : Nat) (rv : (Nat → Int32) → Int32) : Prop := (∃ s0, s0 ≤ 40 ∧ I a 4 = nI s0 ∧ ∀ th, z_val (I (a + 1)) th s0 = rv th) ∧ (I a 9 = 0 → ∀ th th', (∀ q, q < 7 → q ≠ 4 → th q = th' q) → rv th = rv th') ∧ (I a 10 = 0 → ∀ th th', (∀ q, q < 7 → q ≠ 6 → th q = th' q) → rv th = rv th') ∧ (I a 9 = 0 → I a 10 = 0 → ∀ th th', (∀ q, q < 7 → q ≠ 4 → q ≠ 6 → th q = th' q) → rv th = rv th')
theorem zRu.v {I : Nat → Nat → Int32} {a : Nat} {rv : (Nat → Int32) → Int32} (h : zRu I a rv) : ∃ s0, s0 ≤ 40 ∧ I a 4 = nI s0 ∧ ∀ th, z_val (I (a + 1)) th s0 = rv th := h.1
theorem zRu.l {I : Nat → Nat → Int32} {a : Nat} {rv : (Nat → Int32) → Int32} (h : zRu I a rv) : I a 9 = 0 → ∀ th th', (∀ q, q < 7 → q ≠ 4 → th q = th' q) → rv th = rv th' := h.2.1
theorem zRu.h {I : Nat → Nat → Int32} {a : Nat} {rv : (Nat → Int32) → Int32} (h : zRu I a rv) : I a 10 = 0 → ∀ th th', (∀ q, q < 7 → q ≠ 6 → th q = th' q) → rv th = rv th' := h.2.2.1
theorem zRu.lh {I : Nat → Nat → Int32} {a : Nat} {rv : (Nat → Int32) → Int32} (h : zRu I a rv) : I a 9 = 0 → I a 10 = 0 → ∀ th th', (∀ q, q < 7 → q ≠ 4 → q ≠ 6 → th q = th' q) → rv th = rv th' := h.2.2.2
theorem zRu.cg {I I1 : Nat → Nat → Int32} {a : Nat} {rv : (Nat → Int32) → Int32} (h : zRu I a rv) (h0 : I1 a = I a) (h1 : I1 (a + 1) = I (a + 1)) : zRu I1 a rv := by
  refine ⟨?_, ?_, ?_, ?_⟩
  · rw [h0, h1]; exact h.v
  · rw [h0]; exact h.l
  · rw [h0]; exact h.h
  · rw [h0]; exact h.lh
def zcT (I : Nat → Nat → Int32) (tx : List Int32) : Prop := I 1 1 = nI tx.length ∧ ∀ k, k < tx.length → I 2 k = tx.getD k 0
def zcR (I : Nat → Nat → Int32) (L : Nat → Nat → Int64) (rw : List Int64) : Prop := I 3 1 = nI rw.length ∧ ∀ k, k < rw.length → L 4 k = rw.getD k 0
def zcU (I : Nat → Nat → Int32) (c : Nat) (un : List (Nat → Int32)) : Prop := ∃ o, o < 12 ∧ I 33 1 = nI o ∧ I 33 2 = nI un.length ∧ ∀ k y, un[k]? = some y → zcS I (35 + 4 * ((o + k) % 12)) c y
def zcK (I : Nat → Nat → Int32) (c : Nat) (kp : Nat → Option (Nat → Int32)) : Prop := ∀ i, i < 2 → match kp i with
  | some y => I 92 i = 1 ∧ zcS I (84 + 4 * i) c y
  | none => I 92 i = 0 ∨ I 92 i = 1 ∧ ∃ q, q < c ∧ I (84 + 4 * i) 3 = nI q
def zcN (I : Nat → Nat → Int32) (sn : List (Int32 × Int32 × Int32)) : Prop := I 93 3 = nI sn.length ∧ ∀ k q, sn[k]? = some q → I 94 k = q.1 ∧ I 95 k = q.2.1 ∧ I 96 k = q.2.2
def zcH (I : Nat → Nat → Int32) (hd : List (Int32 × Int32)) : Prop := I 97 3 = nI hd.length ∧ ∀ k q, hd[k]? = some q → I 98 k = q.1 ∧ I 99 k = q.2
def zC (n : Nat) (kd : Nat → Nat × Nat) (I : Nat → Nat → Int32) (L : Nat → Nat → Int64) (Rf : Nat → Nat → Option Nat) (T : zT) : Prop := (zF n kd Rf) ∧ (∃ a, zS Rf a ∧ zRu I a T.rv) ∧ (zcT I T.tx) ∧ (zcR I L T.rw) ∧ (∀ t, t < 6 → I 6 t = T.pr t) ∧ (I 5 2 = nI T.wm) ∧ (∀ k, k < T.wm → I 7 k = T.wd k) ∧ (zcS I 21 T.c T.x) ∧ (zcU I T.c T.un) ∧ (zcK I T.c T.kp) ∧ (zcN I T.sn) ∧ (zcH I T.hd) ∧ ((Rf 102 0 = some 103 ∧ Rf 102 1 = some 104) ∨ (Rf 102 0 = some 104 ∧ Rf 102 1 = some 103)) ∧ ((kd 1000050).2 = 5 ∧ I 1000050 0 = 9 ∧ I 1000050 1 = 5 ∧ I 1000050 2 = 1 ∧ I 1000050 3 = 5 ∧ I 1000050 4 = 9)
theorem zC.F {n : Nat} {kd : Nat → Nat × Nat} {I : Nat → Nat → Int32} {L : Nat → Nat → Int64} {Rf : Nat → Nat → Option Nat} {T : zT} (h : zC n kd I L Rf T) : zF n kd Rf := h.1
theorem zC.S {n : Nat} {kd : Nat → Nat × Nat} {I : Nat → Nat → Int32} {L : Nat → Nat → Int64} {Rf : Nat → Nat → Option Nat} {T : zT} (h : zC n kd I L Rf T) : ∃ a, zS Rf a ∧ zRu I a T.rv := h.2.1
theorem zC.tx {n : Nat} {kd : Nat → Nat × Nat} {I : Nat → Nat → Int32} {L : Nat → Nat → Int64} {Rf : Nat → Nat → Option Nat} {T : zT} (h : zC n kd I L Rf T) : zcT I T.tx := h.2.2.1
theorem zC.rw {n : Nat} {kd : Nat → Nat × Nat} {I : Nat → Nat → Int32} {L : Nat → Nat → Int64} {Rf : Nat → Nat → Option Nat} {T : zT} (h : zC n kd I L Rf T) : zcR I L T.rw := h.2.2.2.1
theorem zC.pr {n : Nat} {kd : Nat → Nat × Nat} {I : Nat → Nat → Int32} {L : Nat → Nat → Int64} {Rf : Nat → Nat → Option Nat} {T : zT} (h : zC n kd I L Rf T) : ∀ t, t < 6 → I 6 t = T.pr t := h.2.2.2.2.1
theorem zC.wm {n : Nat} {kd : Nat → Nat × Nat} {I : Nat → Nat → Int32} {L : Nat → Nat → Int64} {Rf : Nat → Nat → Option Nat} {T : zT} (h : zC n kd I L Rf T) : I 5 2 = nI T.wm := h.2.2.2.2.2.1
theorem zC.wd {n : Nat} {kd : Nat → Nat × Nat} {I : Nat → Nat → Int32} {L : Nat → Nat → Int64} {Rf : Nat → Nat → Option Nat} {T : zT} (h : zC n kd I L Rf T) : ∀ k, k < T.wm → I 7 k = T.wd k := h.2.2.2.2.2.2.1
theorem zC.sh {n : Nat} {kd : Nat → Nat × Nat} {I : Nat → Nat → Int32} {L : Nat → Nat → Int64} {Rf : Nat → Nat → Option Nat} {T : zT} (h : zC n kd I L Rf T) : zcS I 21 T.c T.x := h.2.2.2.2.2.2.2.1
theorem zC.un {n : Nat} {kd : Nat → Nat × Nat} {I : Nat → Nat → Int32} {L : Nat → Nat → Int64} {Rf : Nat → Nat → Option Nat} {T : zT} (h : zC n kd I L Rf T) : zcU I T.c T.un := h.2.2.2.2.2.2.2.2.1
theorem zC.kp {n : Nat} {kd : Nat → Nat × Nat} {I : Nat → Nat → Int32} {L : Nat → Nat → Int64} {Rf : Nat → Nat → Option Nat} {T : zT} (h : zC n kd I L Rf T) : zcK I T.c T.kp := h.2.2.2.2.2.2.2.2.2.1
theorem zC.sn {n : Nat} {kd : Nat → Nat × Nat} {I : Nat → Nat → Int32} {L : Nat → Nat → Int64} {Rf : Nat → Nat → Option Nat} {T : zT} (h : zC n kd I L Rf T) : zcN I T.sn := h.2.2.2.2.2.2.2.2.2.2.1
theorem zC.hd {n : Nat} {kd : Nat → Nat × Nat} {I : Nat → Nat → Int32} {L : Nat → Nat → Int64} {Rf : Nat → Nat → Option Nat} {T : zT} (h : zC n kd I L Rf T) : zcH I T.hd := h.2.2.2.2.2.2.2.2.2.2.2.1
theorem zC.ch {n : Nat} {kd : Nat → Nat × Nat} {I : Nat → Nat → Int32} {L : Nat → Nat → Int64} {Rf : Nat → Nat → Option Nat} {T : zT} (h : zC n kd I L Rf T) : (Rf 102 0 = some 103 ∧ Rf 102 1 = some 104) ∨ (Rf 102 0 = some 104 ∧ Rf 102 1 = some 103) := h.2.2.2.2.2.2.2.2.2.2.2.2.1
theorem zC.hm {n : Nat} {kd : Nat → Nat × Nat} {I : Nat → Nat → Int32} {L : Nat → Nat → Int64} {Rf : Nat → Nat → Option Nat} {T : zT} (h : zC n kd I L Rf T) : (kd 1000050).2 = 5 ∧ I 1000050 0 = 9 ∧ I 1000050 1 = 5 ∧ I 1000050 2 = 1 ∧ I 1000050 3 = 5 ∧ I 1000050 4 = 9 := h.2.2.2.2.2.2.2.2.2.2.2.2.2
/-! how the reference reads a rule: (where it stands, what is wrong: -1 or a place) -/
abbrev zps : Type := Nat × Int32
/-- the sign here, of n signs, at most top of them -/
def zhr (t : Nat → Int32) (n top : Nat) (p : Nat) : Int32 := if p < n ∧ p < top then t p &&& 255 else -1
def zp_fault (k : Nat) (s : zps) : zps := if s.2 = -1 then (s.1, nI k) else s
def zp_one (hr : Nat → Int32) (a m : Int32) (s : zps) : Int32 × zps := if s.2 = -1 then (if a ≤ hr s.1 ∧ hr s.1 ≤ a + m - 1 then (hr s.1 - a, (s.1 + 1, s.2)) else (0, (s.1, nI s.1))) else (0, s)
abbrev zp_dg (hr : Nat → Int32) (s : zps) : Prop := s.2 = -1 ∧ 48 ≤ hr s.1 ∧ hr s.1 ≤ 57
/-- up to k more signs of a number -/
def zp_nl (hr : Nat → Int32) : Nat → Int32 → zps → Int32 × zps
  | 0, v, s => (v, s)
  | k + 1, v, s => if zp_dg hr s then zp_nl hr k (10 * v + (zp_one hr 48 10 s).1) (zp_one hr 48 10 s).2 else (v, s)
def zp_num (hr : Nat → Int32) (k : Nat) (s : zps) : Int32 × zps := zp_nl hr (k - 1) (zp_one hr 48 10 s).1 (zp_one hr 48 10 s).2
abbrev zp_is (hr : Nat → Int32) (c : Int32) (s : zps) : Prop := s.2 = -1 ∧ hr s.1 = c
def zp_need (hr : Nat → Int32) (c : Int32) (s : zps) : zps := if zp_is hr c s then (s.1 + 1, s.2) else zp_fault s.1 s
/-- 0 held, 1 sum, 2 sum's loop, 3 product, 4 product's loop, 5 thing; by fuel -/
def zp (hr as : Nat → Int32) : Nat → Nat → Nat → Int32 → zps → Int32 × zps
  | 0, _, _, _, s => (0, s)
  | f + 1, 0, dp, _, s =>
    let a := zp hr as f 1 dp 0 s
    if zp_is hr 60 a.2 then let b := zp hr as f 1 dp 0 (a.2.1 + 1, a.2.2); (if a.1 < b.1 then 1 else 0, b.2)
    else if zp_is hr 62 a.2 then let b := zp hr as f 1 dp 0 (a.2.1 + 1, a.2.2); (if b.1 < a.1 then 1 else 0, b.2)
    else if zp_is hr 61 a.2 then let b := zp hr as f 1 dp 0 (a.2.1 + 1, a.2.2); (if a.1 = b.1 then 1 else 0, b.2)
    else a
  | f + 1, 1, dp, _, s => let a := zp hr as f 3 dp 0 s; zp hr as f 2 dp a.1 a.2
  | f + 1, 2, dp, v, s =>
    if zp_is hr 43 s then let a := zp hr as f 3 dp 0 (s.1 + 1, s.2); zp hr as f 2 dp (v + a.1) a.2
    else if zp_is hr 45 s then let a := zp hr as f 3 dp 0 (s.1 + 1, s.2); zp hr as f 2 dp (v - a.1) a.2
    else (v, s)
  | f + 1, 3, dp, _, s => let a := zp hr as f 5 dp 0 s; zp hr as f 4 dp a.1 a.2
  | f + 1, 4, dp, v, s =>
    if zp_is hr 42 s then let a := zp hr as f 5 dp 0 (s.1 + 1, s.2); zp hr as f 4 dp (v * a.1) a.2
    else if zp_is hr 47 s then let a := zp hr as f 5 dp 0 (s.1 + 1, s.2); zp hr as f 4 dp (if a.1 = 0 then 0 else v / a.1) a.2
    else (v, s)
  | f + 1, _, dp, _, s =>
    if zp_is hr 45 s then let a := zp hr as f 5 dp 0 (s.1 + 1, s.2); (-a.1, a.2)
    else if s.2 ≠ -1 then (0, s)
    else if hr s.1 = 40 ∧ dp < 4 then let a := zp hr as f 0 (dp + 1) 0 (s.1 + 1, s.2); (a.1, zp_need hr 41 a.2)
    else if 48 ≤ hr s.1 ∧ hr s.1 ≤ 57 then zp_num hr 3 s
    else if z_li (hr s.1) = -1 then (0, zp_fault s.1 s)
    else (as (z_li (hr s.1)).toNatClampNeg, (s.1 + 1, s.2))
/-- the value of a rule of n signs -/
def zrvM (t : Nat → Int32) (n : Nat) (th : Nat → Int32) : Int32 := if n = 0 then th 0 + th 1 else (zp (zhr t n 40) th 300 0 0 0 (0, -1)).1
/-- what is wrong with a rule of n signs (-1: nothing) -/
def zrdM (t : Nat → Int32) (n : Nat) : Int32 := (fun s : zps => if s.1 < n then (zp_fault s.1 s).2 else s.2) (if n = 0 then (0, -1) else (zp (zhr t n 40) (fun _ => 0) 300 0 0 0 (0, -1)).2)
/-- the reference's cells -/
def zM (n : Nat) (kd : Nat → Nat × Nat) (I : Nat → Nat → Int32) (L : Nat → Nat → Int64) (Rf : Nat → Nat → Option Nat) (T : zT) : Prop := (zF n kd Rf) ∧ (Rf 112 16 = some 119) ∧ (∃ s, s ≤ 40 ∧ I 112 18 = nI s ∧ (∀ k, k < s → ∃ v, v < 256 ∧ I 119 k = (nI v).toInt8.toInt32) ∧ ∀ th, zrvM (I 119) s th = T.rv th) ∧ (I 112 6 = nI T.tx.length ∧ ∀ k, k < T.tx.length → I 116 k = (T.tx.getD k 0).toInt8.toInt32) ∧ (I 112 8 = nI T.rw.length ∧ ∀ k, k < T.rw.length → L 117 k = T.rw.getD k 0) ∧ (∀ t, t < 6 → I 114 t = T.pr t) ∧ (I 112 4 = nI T.wm) ∧ (∀ k, k < T.wm → I 115 k = T.wd k) ∧ (I 112 1 = nI T.c) ∧ (∀ k, k < 26 → I 113 k = T.x k) ∧ (I 112 22 = nI T.un.length ∧ ∀ j y, T.un[j]? = some y → ∀ k, k < 26 → I 122 (26 * j + k) = y k) ∧ (∃ cm, cm ≤ 7 ∧ cm ≤ T.c ∧ I 112 38 = nI cm ∧ ∀ i, i < 2 → match T.kp i with
    | some y => I 135 i = 1 ∧ I 136 i = nI cm ∧ ∀ k, k < 26 → I 134 (26 * i + k) = y k
    | none => I 135 i = 0 ∨ I 135 i = 1 ∧ ∃ q, q < cm ∧ I 136 i = nI q) ∧ (I 112 30 = nI T.sn.length ∧ ∀ k q, T.sn[k]? = some q → I 126 k = q.1 ∧ I 127 k = q.2.1 ∧ I 128 k = q.2.2) ∧ (I 112 34 = nI T.hd.length ∧ ∀ k q, T.hd[k]? = some q → I 130 k = q.1 ∧ I 131 k = q.2)
theorem zM.F {n : Nat} {kd : Nat → Nat × Nat} {I : Nat → Nat → Int32} {L : Nat → Nat → Int64} {Rf : Nat → Nat → Option Nat} {T : zT} (h : zM n kd I L Rf T) : zF n kd Rf := h.1
theorem zM.ru {n : Nat} {kd : Nat → Nat × Nat} {I : Nat → Nat → Int32} {L : Nat → Nat → Int64} {Rf : Nat → Nat → Option Nat} {T : zT} (h : zM n kd I L Rf T) : Rf 112 16 = some 119 := h.2.1
theorem zM.rv {n : Nat} {kd : Nat → Nat × Nat} {I : Nat → Nat → Int32} {L : Nat → Nat → Int64} {Rf : Nat → Nat → Option Nat} {T : zT} (h : zM n kd I L Rf T) : ∃ s, s ≤ 40 ∧ I 112 18 = nI s ∧ (∀ k, k < s → ∃ v, v < 256 ∧ I 119 k = (nI v).toInt8.toInt32) ∧ ∀ th, zrvM (I 119) s th = T.rv th := h.2.2.1
theorem zM.tx {n : Nat} {kd : Nat → Nat × Nat} {I : Nat → Nat → Int32} {L : Nat → Nat → Int64} {Rf : Nat → Nat → Option Nat} {T : zT} (h : zM n kd I L Rf T) : I 112 6 = nI T.tx.length ∧ ∀ k, k < T.tx.length → I 116 k = (T.tx.getD k 0).toInt8.toInt32 := h.2.2.2.1
theorem zM.rw {n : Nat} {kd : Nat → Nat × Nat} {I : Nat → Nat → Int32} {L : Nat → Nat → Int64} {Rf : Nat → Nat → Option Nat} {T : zT} (h : zM n kd I L Rf T) : I 112 8 = nI T.rw.length ∧ ∀ k, k < T.rw.length → L 117 k = T.rw.getD k 0 := h.2.2.2.2.1
theorem zM.pr {n : Nat} {kd : Nat → Nat × Nat} {I : Nat → Nat → Int32} {L : Nat → Nat → Int64} {Rf : Nat → Nat → Option Nat} {T : zT} (h : zM n kd I L Rf T) : ∀ t, t < 6 → I 114 t = T.pr t := h.2.2.2.2.2.1
theorem zM.wm {n : Nat} {kd : Nat → Nat × Nat} {I : Nat → Nat → Int32} {L : Nat → Nat → Int64} {Rf : Nat → Nat → Option Nat} {T : zT} (h : zM n kd I L Rf T) : I 112 4 = nI T.wm := h.2.2.2.2.2.2.1
theorem zM.wd {n : Nat} {kd : Nat → Nat × Nat} {I : Nat → Nat → Int32} {L : Nat → Nat → Int64} {Rf : Nat → Nat → Option Nat} {T : zT} (h : zM n kd I L Rf T) : ∀ k, k < T.wm → I 115 k = T.wd k := h.2.2.2.2.2.2.2.1
theorem zM.c {n : Nat} {kd : Nat → Nat × Nat} {I : Nat → Nat → Int32} {L : Nat → Nat → Int64} {Rf : Nat → Nat → Option Nat} {T : zT} (h : zM n kd I L Rf T) : I 112 1 = nI T.c := h.2.2.2.2.2.2.2.2.1
theorem zM.x {n : Nat} {kd : Nat → Nat × Nat} {I : Nat → Nat → Int32} {L : Nat → Nat → Int64} {Rf : Nat → Nat → Option Nat} {T : zT} (h : zM n kd I L Rf T) : ∀ k, k < 26 → I 113 k = T.x k := h.2.2.2.2.2.2.2.2.2.1
theorem zM.un {n : Nat} {kd : Nat → Nat × Nat} {I : Nat → Nat → Int32} {L : Nat → Nat → Int64} {Rf : Nat → Nat → Option Nat} {T : zT} (h : zM n kd I L Rf T) : I 112 22 = nI T.un.length ∧ ∀ j y, T.un[j]? = some y → ∀ k, k < 26 → I 122 (26 * j + k) = y k := h.2.2.2.2.2.2.2.2.2.2.1
theorem zM.kp {n : Nat} {kd : Nat → Nat × Nat} {I : Nat → Nat → Int32} {L : Nat → Nat → Int64} {Rf : Nat → Nat → Option Nat} {T : zT} (h : zM n kd I L Rf T) : ∃ cm, cm ≤ 7 ∧ cm ≤ T.c ∧ I 112 38 = nI cm ∧ ∀ i, i < 2 → match T.kp i with
    | some y => I 135 i = 1 ∧ I 136 i = nI cm ∧ ∀ k, k < 26 → I 134 (26 * i + k) = y k
    | none => I 135 i = 0 ∨ I 135 i = 1 ∧ ∃ q, q < cm ∧ I 136 i = nI q := h.2.2.2.2.2.2.2.2.2.2.2.1
theorem zM.sn {n : Nat} {kd : Nat → Nat × Nat} {I : Nat → Nat → Int32} {L : Nat → Nat → Int64} {Rf : Nat → Nat → Option Nat} {T : zT} (h : zM n kd I L Rf T) : I 112 30 = nI T.sn.length ∧ ∀ k q, T.sn[k]? = some q → I 126 k = q.1 ∧ I 127 k = q.2.1 ∧ I 128 k = q.2.2 := h.2.2.2.2.2.2.2.2.2.2.2.2.1
theorem zM.hd {n : Nat} {kd : Nat → Nat × Nat} {I : Nat → Nat → Int32} {L : Nat → Nat → Int64} {Rf : Nat → Nat → Option Nat} {T : zT} (h : zM n kd I L Rf T) : I 112 34 = nI T.hd.length ∧ ∀ k q, T.hd[k]? = some q → I 130 k = q.1 ∧ I 131 k = q.2 := h.2.2.2.2.2.2.2.2.2.2.2.2.2
theorem zF.cgR {n : Nat} {kd : Nat → Nat × Nat} {Rf R1 : Nat → Nat → Option Nat} (h : zF n kd Rf) (hR : R1 = Rf) : zF n kd R1 := hR ▸ h
theorem zcT.cg {I I1 : Nat → Nat → Int32} {t : List Int32} (h : zcT I t) (h1 : I1 1 = I 1) (h2 : I1 2 = I 2) : zcT I1 t := by unfold zcT; rw [h1, h2]; exact h
theorem zcR.cg {I I1 : Nat → Nat → Int32} {L L1 : Nat → Nat → Int64} {t : List Int64} (h : zcR I L t) (h1 : I1 3 = I 3) (h2 : L1 4 = L 4) : zcR I1 L1 t := by unfold zcR; rw [h1, h2]; exact h
theorem zcU.cg {I I1 : Nat → Nat → Int32} {c : Nat} {un : List (Nat → Int32)} (h : zcU I c un) (h1 : ∀ c, 33 ≤ c → c ≤ 82 → I1 c = I c) : zcU I1 c un := by
  obtain ⟨o, ho, e1, e2, e3⟩ := h
  refine ⟨o, ho, by rw [h1 33 (by omega) (by omega)]; exact e1, by rw [h1 33 (by omega) (by omega)]; exact e2, fun k y hy => ?_⟩
  have hm := Nat.mod_lt (o + k) (show 0 < 12 by decide)
  exact (e3 k y hy).cg (h1 _ (by omega) (by omega)) (h1 _ (by omega) (by omega)) (h1 _ (by omega) (by omega)) (h1 _ (by omega) (by omega))
theorem zcK.cg {I I1 : Nat → Nat → Int32} {c : Nat} {kp : Nat → Option (Nat → Int32)} (h : zcK I c kp) (h1 : ∀ c, 84 ≤ c → c ≤ 92 → I1 c = I c) : zcK I1 c kp := by
  intro i hi
  have := h i hi
  cases e : kp i with
  | none =>
    rw [e] at this
    simp only at this ⊢
    rw [h1 92 (by omega) (by omega), h1 (84 + 4 * i) (by omega) (by omega)]
    exact this
  | some y =>
    rw [e] at this
    simp only at this ⊢
    rw [h1 92 (by omega) (by omega)]
    exact ⟨this.1, this.2.cg (h1 _ (by omega) (by omega)) (h1 _ (by omega) (by omega)) (h1 _ (by omega) (by omega)) (h1 _ (by omega) (by omega))⟩
theorem zcN.cg {I I1 : Nat → Nat → Int32} {t : List (Int32 × Int32 × Int32)} (h : zcN I t) (h1 : ∀ c, 93 ≤ c → c ≤ 96 → I1 c = I c) : zcN I1 t := by
  unfold zcN; rw [h1 93 (by omega) (by omega), h1 94 (by omega) (by omega), h1 95 (by omega) (by omega), h1 96 (by omega) (by omega)]; exact h
theorem zcH.cg {I I1 : Nat → Nat → Int32} {t : List (Int32 × Int32)} (h : zcH I t) (h1 : ∀ c, 97 ≤ c → c ≤ 99 → I1 c = I c) : zcH I1 t := by
  unfold zcH; rw [h1 97 (by omega) (by omega), h1 98 (by omega) (by omega), h1 99 (by omega) (by omega)]; exact h
/-- the class's state where nothing of its cells has changed -/
theorem zC.cg {n n1 : Nat} {kd kd1 : Nat → Nat × Nat} {I I1 : Nat → Nat → Int32} {L L1 : Nat → Nat → Int64} {Rf R1 : Nat → Nat → Option Nat} {T : zT} (h : zC n kd I L Rf T) (hF : zF n1 kd1 R1) (hk : kd1 1000050 = kd 1000050) (hI : ∀ c, c < 112 ∨ c = 1000050 → I1 c = I c) (hL : L1 4 = L 4) (hR : ∀ c, c < 112 → R1 c = Rf c) : zC n1 kd1 I1 L1 R1 T := by
  obtain ⟨a, hS, hu⟩ := h.S
  have ha := hS.2.2
  refine ⟨hF, ⟨a, ?_, hu.cg (hI a (by omega)) (hI (a + 1) (by omega))⟩, h.tx.cg (hI 1 (by omega)) (hI 2 (by omega)), h.rw.cg (hI 3 (by omega)) hL, ?_, ?_, ?_, h.sh.cg (hI 21 (by omega)) (hI 22 (by omega)) (hI 23 (by omega)) (hI 24 (by omega)), h.un.cg (fun c h1 h2 => hI c (by omega)), h.kp.cg (fun c h1 h2 => hI c (by omega)), h.sn.cg (fun c h1 h2 => hI c (by omega)), h.hd.cg (fun c h1 h2 => hI c (by omega)), ?_, ?_⟩
  · unfold zS; rw [hR 5 (by omega)]; exact hS
  · rw [hI 6 (by omega)]; exact h.pr
  · rw [hI 5 (by omega)]; exact h.wm
  · rw [hI 7 (by omega)]; exact h.wd
  · rw [hR 102 (by omega)]; exact h.ch
  · rw [hI 1000050 (by omega), hk]; exact h.hm
theorem zM.cg {n n1 : Nat} {kd kd1 : Nat → Nat × Nat} {I I1 : Nat → Nat → Int32} {L L1 : Nat → Nat → Int64} {Rf R1 : Nat → Nat → Option Nat} {T : zT} (h : zM n kd I L Rf T) (hF : zF n1 kd1 R1) (hI : ∀ c, 112 ≤ c → c ≤ 136 → I1 c = I c) (hL : L1 117 = L 117) (hR : R1 112 16 = Rf 112 16) : zM n1 kd1 I1 L1 R1 T := by
  refine ⟨hF, hR.trans h.ru, ?_, ?_, ?_, ?_, ?_, ?_, ?_, ?_, ?_, ?_, ?_, ?_⟩
  · rw [hI 112 (by omega) (by omega), hI 119 (by omega) (by omega)]; exact h.rv
  · rw [hI 112 (by omega) (by omega), hI 116 (by omega) (by omega)]; exact h.tx
  · rw [hI 112 (by omega) (by omega), hL]; exact h.rw
  · rw [hI 114 (by omega) (by omega)]; exact h.pr
  · rw [hI 112 (by omega) (by omega)]; exact h.wm
  · rw [hI 115 (by omega) (by omega)]; exact h.wd
  · rw [hI 112 (by omega) (by omega)]; exact h.c
  · rw [hI 113 (by omega) (by omega)]; exact h.x
  · rw [hI 112 (by omega) (by omega), hI 122 (by omega) (by omega)]; exact h.un
  · rw [hI 112 (by omega) (by omega), hI 134 (by omega) (by omega), hI 135 (by omega) (by omega), hI 136 (by omega) (by omega)]; exact h.kp
  · rw [hI 112 (by omega) (by omega), hI 126 (by omega) (by omega), hI 127 (by omega) (by omega), hI 128 (by omega) (by omega)]; exact h.sn
  · rw [hI 112 (by omega) (by omega), hI 130 (by omega) (by omega), hI 131 (by omega) (by omega)]; exact h.hd
theorem zM.fr {n n1 : Nat} {kd kd1 : Nat → Nat × Nat} {I J : Nat → Nat → Int32} {L L1 : Nat → Nat → Int64} {Rf R1 : Nat → Nat → Option Nat} {T : zT} (h : zM n kd I L Rf T) (hF : zF n1 kd1 R1) (hI : ∀ c, c ≠ 112 → c ≠ 118 → c ≠ 120 → c ≠ 121 → c ≠ 123 → c ≠ 124 → c ≠ 125 → c ≠ 129 → c ≠ 132 → c ≠ 133 → J c = I c) (hf : ∀ k, (k = 1 ∨ k = 4 ∨ k = 6 ∨ k = 8 ∨ k = 18 ∨ k = 22 ∨ k = 30 ∨ k = 34 ∨ k = 38) → J 112 k = I 112 k) (hL : L1 117 = L 117) (hR : R1 112 16 = Rf 112 16) : zM n1 kd1 J L1 R1 T := by
  refine ⟨hF, hR.trans h.ru, ?_, ?_, ?_, ?_, ?_, ?_, ?_, ?_, ?_, ?_, ?_, ?_⟩
  · rw [hf 18 (by omega), hI 119 (by omega) (by omega) (by omega) (by omega) (by omega) (by omega) (by omega) (by omega) (by omega) (by omega)]; exact h.rv
  · rw [hf 6 (by omega), hI 116 (by omega) (by omega) (by omega) (by omega) (by omega) (by omega) (by omega) (by omega) (by omega) (by omega)]; exact h.tx
  · rw [hf 8 (by omega), hL]; exact h.rw
  · rw [hI 114 (by omega) (by omega) (by omega) (by omega) (by omega) (by omega) (by omega) (by omega) (by omega) (by omega)]; exact h.pr
  · rw [hf 4 (by omega)]; exact h.wm
  · rw [hI 115 (by omega) (by omega) (by omega) (by omega) (by omega) (by omega) (by omega) (by omega) (by omega) (by omega)]; exact h.wd
  · rw [hf 1 (by omega)]; exact h.c
  · rw [hI 113 (by omega) (by omega) (by omega) (by omega) (by omega) (by omega) (by omega) (by omega) (by omega) (by omega)]; exact h.x
  · rw [hf 22 (by omega), hI 122 (by omega) (by omega) (by omega) (by omega) (by omega) (by omega) (by omega) (by omega) (by omega) (by omega)]; exact h.un
  · rw [hf 38 (by omega), hI 134 (by omega) (by omega) (by omega) (by omega) (by omega) (by omega) (by omega) (by omega) (by omega) (by omega), hI 135 (by omega) (by omega) (by omega) (by omega) (by omega) (by omega) (by omega) (by omega) (by omega) (by omega), hI 136 (by omega) (by omega) (by omega) (by omega) (by omega) (by omega) (by omega) (by omega) (by omega) (by omega)]; exact h.kp
  · rw [hf 30 (by omega), hI 126 (by omega) (by omega) (by omega) (by omega) (by omega) (by omega) (by omega) (by omega) (by omega) (by omega), hI 127 (by omega) (by omega) (by omega) (by omega) (by omega) (by omega) (by omega) (by omega) (by omega) (by omega), hI 128 (by omega) (by omega) (by omega) (by omega) (by omega) (by omega) (by omega) (by omega) (by omega) (by omega)]; exact h.sn
  · rw [hf 34 (by omega), hI 130 (by omega) (by omega) (by omega) (by omega) (by omega) (by omega) (by omega) (by omega) (by omega) (by omega), hI 131 (by omega) (by omega) (by omega) (by omega) (by omega) (by omega) (by omega) (by omega) (by omega) (by omega)]; exact h.hd
theorem zM.f9 {n : Nat} {kd : Nat → Nat × Nat} {I : Nat → Nat → Int32} {L : Nat → Nat → Int64} {Rf : Nat → Nat → Option Nat} {T : zT} {v : Int32} (h : zM n kd I L Rf T) : zM n kd (z_set I 112 9 v) L Rf T := h.fr h.F (fun c h1 _ _ _ _ _ _ _ _ _ => z_set_ne h1) (fun k hk => by unfold z_set; rw [if_neg (by omega)]) rfl rfl
/-- what a call on the class ends with -/
def zpC (n : Nat) (sl : Nat × Nat) (kd : Nat → Nat × Nat) (I : Nat → Nat → Int32) (L : Nat → Nat → Int64) (Rf : Nat → Nat → Option Nat) (v : Option Value) (T : zT) : Option Value → eb_S → Prop := fun r τ => r = v ∧ ∃ I1 L1 R1, τ = (n, sl, kd, I1, L1, R1) ∧ zC n kd I1 L1 R1 T ∧ ∀ c, 112 ≤ c → I1 c = I c ∧ L1 c = L c ∧ R1 c = Rf c
/-- what a call on the reference ends with -/
def zpM (n : Nat) (sl : Nat × Nat) (kd : Nat → Nat × Nat) (I : Nat → Nat → Int32) (L : Nat → Nat → Int64) (Rf : Nat → Nat → Option Nat) (v : Option Value) (T : zT) : Option Value → eb_S → Prop := fun r τ => r = v ∧ ∃ I1 L1 R1, τ = (n, sl, kd, I1, L1, R1) ∧ zM n kd I1 L1 R1 T ∧ I1 112 9 = 0 ∧ ∀ c, c < 112 ∨ 136 < c → I1 c = I c ∧ L1 c = L c ∧ R1 c = Rf c
theorem z_cp_ne {I : Nat → Nat → Int32} {i j c a : Nat} (h0 : a ≠ i) (h1 : a ≠ i + 1) (h2 : a ≠ i + 2) (h3 : a ≠ i + 3) : z_cp I i j c a = I a := by
  funext q; unfold z_cp z_ca; rw [if_neg h0, if_neg h1, if_neg h2, if_neg h3]
theorem z_sp_ne {I : Nat → Nat → Int32} {j a : Nat} {S : z_S} (h : a ≠ j) : z_sp I j S a = I a := by
  funext q; unfold z_sp; rw [if_neg h]
/-- a copied ship holds the row -/
theorem zcS.cp {I : Nat → Nat → Int32} {i j c : Nat} {x : Nat → Int32} (h : zcS I j c x) : zcS (z_cp I i j c) i c x := by
  refine ⟨?_, fun b hb => ?_, fun b hb => ?_, fun b hb => ?_, ?_, ?_, ?_, ?_, ?_⟩
  · simp [z_cp]; exact h.cr
  · simp [z_cp, z_ca, hb]; exact h.g b hb
  · simp [z_cp, z_ca, hb]; exact h.t b hb
  · simp [z_cp, z_ca, hb]; exact h.p b hb
  · simp [z_cp]; exact h.s
  · simp [z_cp]; exact h.l
  · simp [z_cp]; exact h.lg
  · simp [z_cp]; exact h.ov
  · simp [z_cp]; exact h.h
/-- another ship's row stays -/
theorem zcS.cpn {I : Nat → Nat → Int32} {i j k c c1 : Nat} {x : Nat → Int32} (h : zcS I k c x) (hk : k + 4 ≤ i ∨ i + 4 ≤ k) : zcS (z_cp I i j c1) k c x :=
  h.cg (z_cp_ne (by omega) (by omega) (by omega) (by omega)) (z_cp_ne (by omega) (by omega) (by omega) (by omega)) (z_cp_ne (by omega) (by omega) (by omega) (by omega)) (z_cp_ne (by omega) (by omega) (by omega) (by omega))
theorem zcS.thk {I : Nat → Nat → Int32} {j c H : Nat} {x : Nat → Int32} (h : zcS I j c x) (hx : zxr c H x) (hc : c ≤ 7) : z_thk I j c := ⟨h.cr, hc, fun b hb => by rw [h.t b hb]; exact hx.t b hb⟩
theorem zcS.row {I : Nat → Nat → Int32} {j c : Nat} {x : Nat → Int32} (h : zcS I j c x) (hc : c ≤ 7) : ∀ o, o < c → zrow I j o = x o ∧ zrow I j (7 + o) = x (7 + o) ∧ zrow I j (14 + o) = x (14 + o) := fun o ho => ⟨(zrow_g (by omega)).trans (h.g o ho), (zrow_t (by omega)).trans (h.t o ho), (zrow_p (by omega)).trans (h.p o ho)⟩
