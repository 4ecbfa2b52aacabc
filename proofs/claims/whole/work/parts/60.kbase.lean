/-! the class: a question's state; the sea by T -/
theorem ez_le {f f' : Nat} {B : Nat → Int32} {g : Nat} {Q : (Nat → Int32) → Prop} {M : eb_M} {d pc : Nat} {l : List (Nat × Value)} {st : List Value} {σ : eb_S} {Φ : Option Value → eb_S → Prop} (h : f' ≤ f) (k : ez_P f' B g Q M d pc l st σ Φ) : ez_P f B g Q M d pc l st σ Φ := fun I7 R7 h7 => k I7 R7 (h7.le h)
/-- a loop that may change the memo -/
theorem ez_forB {g : Nat} {Q : (Nat → Int32) → Prop} {α : Type} {M : eb_M} {d pc : Nat} {Φ : Option Value → eb_S → Prop} (N : Nat) (F : Nat → Nat) (X : Nat → α → List (Nat × Value) × eb_S) (Inv : Nat → (Nat → Int32) → α → Prop)
    (hs : ∀ k B a, k < N → Inv k B a → (∀ B' a', Inv (k + 1) B' a' → ez_P (F (k + 1)) B' g Q M d pc (X (k + 1) a').1 [] (X (k + 1) a').2 Φ) → ez_P (F k) B g Q M d pc (X k a).1 [] (X k a).2 Φ)
    (he : ∀ B a, Inv N B a → ez_P (F N) B g Q M d pc (X N a).1 [] (X N a).2 Φ) : ∀ (j k : Nat) (B : Nat → Int32) (a : α), j + k = N → Inv k B a → ez_P (F k) B g Q M d pc (X k a).1 [] (X k a).2 Φ := by
  intro j
  induction j with
  | zero => intro k B a hk h; rw [Nat.zero_add] at hk; subst hk; exact he B a h
  | succ j ih => intro k B a hk h; exact hs k B a (by omega) h (fun B' a' h' => ih (k + 1) B' a' (by omega) h')
/-- a call that leaves the memo's stamp, with stamps to spare -/
theorem zq.fu {M : eb_M} {d : Nat} {as : List Value} {σ : eb_S} {Φ : Option Value → eb_S → Prop} (h : zq M d as σ Φ) (f k : Nat) (B : Nat → Int32) : ez_Q (f + k) B f (fun _ => True) M d as σ Φ := fun I7 R7 h7 => (h (f + k) B I7 R7 h7).to (by rintro r τ ⟨I1, R1, C, hC, h8, h9⟩; exact ⟨I1, R1, C, trivial, h8.le (by omega), h9⟩)
theorem ez_Q.wk {f k m : Nat} {B : Nat → Int32} {M : eb_M} {d : Nat} {as : List Value} {σ : eb_S} {Φ : Option Value → eb_S → Prop} (h : ez_Q (f + k) B f (fun _ => True) M d as σ Φ) (hk : k ≤ m) : ez_Q (f + m) B f (fun _ => True) M d as σ Φ := fun I7 R7 h7 => h I7 R7 (h7.le (by omega))
theorem zF.rwc {n : Nat} {kd : Nat → Nat × Nat} {Rf : Nat → Nat → Option Nat} (h : zF n kd Rf) : eb_rwc n kd Rf 3 := ⟨h.kc (by decide) rfl, h.ka (by decide) rfl, h.pt 2 rfl, (by have := h.1; omega), h.2.1⟩
theorem z_tld_zq {n : Nat} {sl : Nat × Nat} {kd : Nat → Nat × Nat} {I : Nat → Nat → Int32} {L : Nat → Nat → Int64} {Rf : Nat → Nat → Option Nat} {M : eb_M} {d : Nat} {as : List Value} {vs : List Int32} (hF : zF n kd Rf) (h : ∀ I7 R7, zF n kd R7 → I7 3 = I 3 → eb_Q M d as (n, sl, kd, I7, L, R7) (z_tld n sl kd I7 L R7 3 vs)) : zq M d as (n, sl, kd, I, L, Rf) (z_tld n sl kd I L Rf 3 vs) := by
  intro f B I7 R7 h7
  have e3 : I7 3 = I 3 := h7.cell (c := 3) (by unfold znc; omega)
  refine (h I7 R7 (hF.tr h7.2.1) e3).to ?_
  rintro _ _ ⟨rfl, I1, L1, rfl, hr, ho⟩
  refine ⟨fun a => if a = 3 then I1 3 else I a, Rf, B, rfl, ⟨fun c k hs => ?_, h7.2.1, h7.2.2.cg ?_ ?_ ?_⟩, rfl, _, L1, rfl, hr, fun a ha => if_neg ha, ho.2⟩
  · show I1 c k = (if c = 3 then I1 3 else I c) k
    by_cases e : c = 3
    · rw [if_pos e, e]
    · rw [if_neg e, ho.1 c e]; exact h7.1 c k hs
  · show I1 5 8 = I7 5 8; rw [ho.1 5 (by decide)]
  · exact ho.1 19 (by decide)
  · exact ho.1 20 (by decide)
theorem y_X4_tell {n : Nat} {sl : Nat × Nat} {kd : Nat → Nat × Nat} {I : Nat → Nat → Int32} {L : Nat → Nat → Int64} {Rf : Nat → Nat → Option Nat} (d : Nat) (hF : zF n kd Rf) (x0 : Int32) : zq mX4_tell (d + 1) [.ref 3, .int x0] (n, sl, kd, I, L, Rf) (z_tld n sl kd I L Rf 3 [x0]) := z_tld_zq hF (fun I7 R7 h7 _ => q_X4_tell d h7.rwc x0)
theorem y_X4_tell_ {n : Nat} {sl : Nat × Nat} {kd : Nat → Nat × Nat} {I : Nat → Nat → Int32} {L : Nat → Nat → Int64} {Rf : Nat → Nat → Option Nat} (d : Nat) (hF : zF n kd Rf) (x0 x1 : Int32) : zq mX4_tell_ (d + 1) [.ref 3, .int x0, .int x1] (n, sl, kd, I, L, Rf) (z_tld n sl kd I L Rf 3 [x0, x1]) := z_tld_zq hF (fun I7 R7 h7 _ => q_X4_tell_ d h7.rwc x0 x1)
theorem y_X4_tell__ {n : Nat} {sl : Nat × Nat} {kd : Nat → Nat × Nat} {I : Nat → Nat → Int32} {L : Nat → Nat → Int64} {Rf : Nat → Nat → Option Nat} (d : Nat) (hF : zF n kd Rf) (x0 x1 x2 : Int32) : zq mX4_tell__ (d + 1) [.ref 3, .int x0, .int x1, .int x2] (n, sl, kd, I, L, Rf) (z_tld n sl kd I L Rf 3 [x0, x1, x2]) := z_tld_zq hF (fun I7 R7 h7 _ => q_X4_tell__ d h7.rwc x0 x1 x2)
theorem y_X4_tell___ {n : Nat} {sl : Nat × Nat} {kd : Nat → Nat × Nat} {I : Nat → Nat → Int32} {L : Nat → Nat → Int64} {Rf : Nat → Nat → Option Nat} (d : Nat) (hF : zF n kd Rf) (x0 x1 x2 x3 : Int32) : zq mX4_tell___ (d + 1) [.ref 3, .int x0, .int x1, .int x2, .int x3] (n, sl, kd, I, L, Rf) (z_tld n sl kd I L Rf 3 [x0, x1, x2, x3]) := z_tld_zq hF (fun I7 R7 h7 _ => q_X4_tell___ d h7.rwc x0 x1 x2 x3)
theorem y_X4_empty {n : Nat} {sl : Nat × Nat} {kd : Nat → Nat × Nat} {I : Nat → Nat → Int32} {L : Nat → Nat → Int64} {Rf : Nat → Nat → Option Nat} (d : Nat) (hF : zF n kd Rf) : zq mX4_empty d [.ref 3] (n, sl, kd, I, L, Rf) (z_tld n sl kd I L Rf 3 []) := z_tld_zq hF (fun I7 R7 h7 _ => q_X4_empty d h7.rwc)
theorem y_X4_add {n : Nat} {sl : Nat × Nat} {kd : Nat → Nat × Nat} {I : Nat → Nat → Int32} {L : Nat → Nat → Int64} {Rf : Nat → Nat → Option Nat} (d : Nat) (hF : zF n kd Rf) {vs : List Int32} (hv : z_row I L 3 vs) (hl : vs.length < 8) (x : Int32) : zq mX4_add d [.ref 3, .int x] (n, sl, kd, I, L, Rf) (z_tld n sl kd I L Rf 3 (vs ++ [x])) := z_tld_zq hF (fun I7 R7 h7 e3 => q_X4_add d h7.rwc (by unfold z_row; rw [e3]; exact hv) hl x)
theorem zC.fr {n n1 : Nat} {kd kd1 : Nat → Nat × Nat} {I I1 : Nat → Nat → Int32} {L L1 : Nat → Nat → Int64} {Rf R1 : Nat → Nat → Option Nat} {T : zT} (h : zC n kd I L Rf T) (hF : zF n1 kd1 R1) (hk : kd1 1000050 = kd 1000050) (hI : ∀ c, c < 25 ∨ 32 < c ∧ c < 100 ∨ c = 1000050 → I1 c = I c) (hL : L1 4 = L 4) (hR : ∀ c, c < 112 → R1 c = Rf c) : zC n1 kd1 I1 L1 R1 T := by
  obtain ⟨a, hS, hu⟩ := h.S
  have ha := hS.2.2
  exact ⟨hF, ⟨a, (by unfold zS; rw [hR 5 (by omega)]; exact hS), hu.cg (hI a (by omega)) (hI (a + 1) (by omega))⟩, h.tx.cg (hI 1 (by omega)) (hI 2 (by omega)), h.rw.cg (hI 3 (by omega)) hL, (by rw [hI 6 (by omega)]; exact h.pr), (by rw [hI 5 (by omega)]; exact h.wm), (by rw [hI 7 (by omega)]; exact h.wd), h.sh.cg (hI 21 (by omega)) (hI 22 (by omega)) (hI 23 (by omega)) (hI 24 (by omega)), h.un.cg (fun c h1 h2 => hI c (by omega)), h.kp.cg (fun c h1 h2 => hI c (by omega)), h.sn.cg (fun c h1 h2 => hI c (by omega)), h.hd.cg (fun c h1 h2 => hI c (by omega)), (by rw [hR 102 (by omega)]; exact h.ch), (by rw [hI 1000050 (by omega), hk]; exact h.hm)⟩
theorem zC.row {n : Nat} {kd : Nat → Nat × Nat} {I I1 : Nat → Nat → Int32} {L L1 : Nat → Nat → Int64} {Rf : Nat → Nat → Option Nat} {T : zT} {rw : List Int64} (h : zC n kd I L Rf T) (hr : zcR I1 L1 rw) (hI : ∀ c, c ≠ 3 → I1 c = I c) : zC n kd I1 L1 Rf (T.w_rw rw) := by
  obtain ⟨a, hS, hu⟩ := h.S
  have ha := hS.2.2
  have hL : L 4 = L 4 := rfl
  exact ⟨h.F, ⟨a, hS, hu.cg (hI a (by omega)) (hI (a + 1) (by omega))⟩, h.tx.cg (hI 1 (by omega)) (hI 2 (by omega)), hr, (by rw [hI 6 (by omega)]; exact h.pr), (by rw [hI 5 (by omega)]; exact h.wm), (by rw [hI 7 (by omega)]; exact h.wd), h.sh.cg (hI 21 (by omega)) (hI 22 (by omega)) (hI 23 (by omega)) (hI 24 (by omega)), h.un.cg (fun c h1 h2 => hI c (by omega)), h.kp.cg (fun c h1 h2 => hI c (by omega)), h.sn.cg (fun c h1 h2 => hI c (by omega)), h.hd.cg (fun c h1 h2 => hI c (by omega)), h.ch, (by rw [hI 1000050 (by omega)]; exact h.hm)⟩
theorem zC.ship {n : Nat} {kd : Nat → Nat × Nat} {I I1 : Nat → Nat → Int32} {L : Nat → Nat → Int64} {Rf : Nat → Nat → Option Nat} {T : zT} {y : Nat → Int32} (h : zC n kd I L Rf T) (hs : zcS I1 21 T.c y) (hI : ∀ c, c < 21 ∨ 24 < c → I1 c = I c) : zC n kd I1 L Rf (T.w_x y) := by
  obtain ⟨a, hS, hu⟩ := h.S
  have ha := hS.2.2
  have hL : L 4 = L 4 := rfl
  exact ⟨h.F, ⟨a, hS, hu.cg (hI a (by omega)) (hI (a + 1) (by omega))⟩, h.tx.cg (hI 1 (by omega)) (hI 2 (by omega)), h.rw.cg (hI 3 (by omega)) hL, (by rw [hI 6 (by omega)]; exact h.pr), (by rw [hI 5 (by omega)]; exact h.wm), (by rw [hI 7 (by omega)]; exact h.wd), hs, h.un.cg (fun c h1 h2 => hI c (by omega)), h.kp.cg (fun c h1 h2 => hI c (by omega)), h.sn.cg (fun c h1 h2 => hI c (by omega)), h.hd.cg (fun c h1 h2 => hI c (by omega)), h.ch, (by rw [hI 1000050 (by omega)]; exact h.hm)⟩
theorem zC.unn {n : Nat} {kd : Nat → Nat × Nat} {I I1 : Nat → Nat → Int32} {L : Nat → Nat → Int64} {Rf : Nat → Nat → Option Nat} {T : zT} {un : List (Nat → Int32)} (h : zC n kd I L Rf T) (hs : zcU I1 T.c un) (hI : ∀ c, c < 33 ∨ 82 < c → I1 c = I c) : zC n kd I1 L Rf (T.w_un un) := by
  obtain ⟨a, hS, hu⟩ := h.S
  have ha := hS.2.2
  have hL : L 4 = L 4 := rfl
  exact ⟨h.F, ⟨a, hS, hu.cg (hI a (by omega)) (hI (a + 1) (by omega))⟩, h.tx.cg (hI 1 (by omega)) (hI 2 (by omega)), h.rw.cg (hI 3 (by omega)) hL, (by rw [hI 6 (by omega)]; exact h.pr), (by rw [hI 5 (by omega)]; exact h.wm), (by rw [hI 7 (by omega)]; exact h.wd), h.sh.cg (hI 21 (by omega)) (hI 22 (by omega)) (hI 23 (by omega)) (hI 24 (by omega)), hs, h.kp.cg (fun c h1 h2 => hI c (by omega)), h.sn.cg (fun c h1 h2 => hI c (by omega)), h.hd.cg (fun c h1 h2 => hI c (by omega)), h.ch, (by rw [hI 1000050 (by omega)]; exact h.hm)⟩
theorem zC.txt {n : Nat} {kd : Nat → Nat × Nat} {I I1 : Nat → Nat → Int32} {L : Nat → Nat → Int64} {Rf : Nat → Nat → Option Nat} {T : zT} {tx : List Int32} (h : zC n kd I L Rf T) (hs : zcT I1 tx) (hI : ∀ c, c < 1 ∨ 2 < c → I1 c = I c) : zC n kd I1 L Rf (T.w_tx tx) := by
  obtain ⟨a, hS, hu⟩ := h.S
  have ha := hS.2.2
  have hL : L 4 = L 4 := rfl
  exact ⟨h.F, ⟨a, hS, hu.cg (hI a (by omega)) (hI (a + 1) (by omega))⟩, hs, h.rw.cg (hI 3 (by omega)) hL, (by rw [hI 6 (by omega)]; exact h.pr), (by rw [hI 5 (by omega)]; exact h.wm), (by rw [hI 7 (by omega)]; exact h.wd), h.sh.cg (hI 21 (by omega)) (hI 22 (by omega)) (hI 23 (by omega)) (hI 24 (by omega)), h.un.cg (fun c h1 h2 => hI c (by omega)), h.kp.cg (fun c h1 h2 => hI c (by omega)), h.sn.cg (fun c h1 h2 => hI c (by omega)), h.hd.cg (fun c h1 h2 => hI c (by omega)), h.ch, (by rw [hI 1000050 (by omega)]; exact h.hm)⟩
theorem zC.snn {n : Nat} {kd : Nat → Nat × Nat} {I I1 : Nat → Nat → Int32} {L : Nat → Nat → Int64} {Rf : Nat → Nat → Option Nat} {T : zT} {sn : List (Int32 × Int32 × Int32)} (h : zC n kd I L Rf T) (hs : zcN I1 sn) (hI : ∀ c, c < 93 ∨ 96 < c → I1 c = I c) : zC n kd I1 L Rf (T.w_sn sn) := by
  obtain ⟨a, hS, hu⟩ := h.S
  have ha := hS.2.2
  have hL : L 4 = L 4 := rfl
  exact ⟨h.F, ⟨a, hS, hu.cg (hI a (by omega)) (hI (a + 1) (by omega))⟩, h.tx.cg (hI 1 (by omega)) (hI 2 (by omega)), h.rw.cg (hI 3 (by omega)) hL, (by rw [hI 6 (by omega)]; exact h.pr), (by rw [hI 5 (by omega)]; exact h.wm), (by rw [hI 7 (by omega)]; exact h.wd), h.sh.cg (hI 21 (by omega)) (hI 22 (by omega)) (hI 23 (by omega)) (hI 24 (by omega)), h.un.cg (fun c h1 h2 => hI c (by omega)), h.kp.cg (fun c h1 h2 => hI c (by omega)), hs, h.hd.cg (fun c h1 h2 => hI c (by omega)), h.ch, (by rw [hI 1000050 (by omega)]; exact h.hm)⟩
theorem zC.hdd {n : Nat} {kd : Nat → Nat × Nat} {I I1 : Nat → Nat → Int32} {L : Nat → Nat → Int64} {Rf : Nat → Nat → Option Nat} {T : zT} {hd : List (Int32 × Int32)} (h : zC n kd I L Rf T) (hs : zcH I1 hd) (hI : ∀ c, c < 97 ∨ 99 < c → I1 c = I c) : zC n kd I1 L Rf (T.w_hd hd) := by
  obtain ⟨a, hS, hu⟩ := h.S
  have ha := hS.2.2
  have hL : L 4 = L 4 := rfl
  exact ⟨h.F, ⟨a, hS, hu.cg (hI a (by omega)) (hI (a + 1) (by omega))⟩, h.tx.cg (hI 1 (by omega)) (hI 2 (by omega)), h.rw.cg (hI 3 (by omega)) hL, (by rw [hI 6 (by omega)]; exact h.pr), (by rw [hI 5 (by omega)]; exact h.wm), (by rw [hI 7 (by omega)]; exact h.wd), h.sh.cg (hI 21 (by omega)) (hI 22 (by omega)) (hI 23 (by omega)) (hI 24 (by omega)), h.un.cg (fun c h1 h2 => hI c (by omega)), h.kp.cg (fun c h1 h2 => hI c (by omega)), h.sn.cg (fun c h1 h2 => hI c (by omega)), hs, h.ch, (by rw [hI 1000050 (by omega)]; exact h.hm)⟩
theorem zC.kpp {n : Nat} {kd : Nat → Nat × Nat} {I I1 : Nat → Nat → Int32} {L : Nat → Nat → Int64} {Rf : Nat → Nat → Option Nat} {T : zT} {kp : Nat → Option (Nat → Int32)} (h : zC n kd I L Rf T) (hs : zcK I1 T.c kp) (hI : ∀ c, c < 84 ∨ 92 < c → I1 c = I c) : zC n kd I1 L Rf (T.w_kp kp) := by
  obtain ⟨a, hS, hu⟩ := h.S
  have ha := hS.2.2
  have hL : L 4 = L 4 := rfl
  exact ⟨h.F, ⟨a, hS, hu.cg (hI a (by omega)) (hI (a + 1) (by omega))⟩, h.tx.cg (hI 1 (by omega)) (hI 2 (by omega)), h.rw.cg (hI 3 (by omega)) hL, (by rw [hI 6 (by omega)]; exact h.pr), (by rw [hI 5 (by omega)]; exact h.wm), (by rw [hI 7 (by omega)]; exact h.wd), h.sh.cg (hI 21 (by omega)) (hI 22 (by omega)) (hI 23 (by omega)) (hI 24 (by omega)), h.un.cg (fun c h1 h2 => hI c (by omega)), hs, h.sn.cg (fun c h1 h2 => hI c (by omega)), h.hd.cg (fun c h1 h2 => hI c (by omega)), h.ch, (by rw [hI 1000050 (by omega)]; exact h.hm)⟩
theorem zcS.sai {I : Nat → Nat → Int32} {j c : Nat} {x : Nat → Int32} (h : zcS I j c x) (hc : c ≤ 7) (v : Int32) : zcS (z_set I j 4 v) j c (zup x 21 v) := by
  refine ⟨?_, fun b hb => ?_, fun b hb => ?_, fun b hb => ?_, ?_, ?_, ?_, ?_, ?_⟩ <;> simp only [z_set, zup]
  · rw [if_neg (by omega)]; exact h.cr
  · rw [if_neg (by omega), if_neg (by omega)]; exact h.g b hb
  · rw [if_neg (by omega), if_neg (by omega)]; exact h.t b hb
  · rw [if_neg (by omega), if_neg (by omega)]; exact h.p b hb
  · simp
  · rw [if_neg (by omega), if_neg (by omega)]; exact h.l
  · rw [if_neg (by omega), if_neg (by omega)]; exact h.lg
  · rw [if_neg (by omega), if_neg (by omega)]; exact h.ov
  · rw [if_neg (by omega), if_neg (by omega)]; exact h.h
theorem zcS.gra {I : Nat → Nat → Int32} {j c : Nat} {x : Nat → Int32} (h : zcS I j c x) (hc : c ≤ 7) {q : Nat} (hq : q < 7) (v : Int32) : zcS (z_set I (j + 1) q v) j c (zup x (q) v) := by
  refine ⟨?_, fun b hb => ?_, fun b hb => ?_, fun b hb => ?_, ?_, ?_, ?_, ?_, ?_⟩ <;> simp only [z_set, zup]
  · rw [if_neg (by omega)]; exact h.cr
  · by_cases e : b = q
    · subst e; simp
    · rw [if_neg (by omega), if_neg (by omega)]; exact h.g b hb
  · rw [if_neg (by omega), if_neg (by omega)]; exact h.t b hb
  · rw [if_neg (by omega), if_neg (by omega)]; exact h.p b hb
  · rw [if_neg (by omega), if_neg (by omega)]; exact h.s
  · rw [if_neg (by omega), if_neg (by omega)]; exact h.l
  · rw [if_neg (by omega), if_neg (by omega)]; exact h.lg
  · rw [if_neg (by omega), if_neg (by omega)]; exact h.ov
  · rw [if_neg (by omega), if_neg (by omega)]; exact h.h
theorem zcS.tho {I : Nat → Nat → Int32} {j c : Nat} {x : Nat → Int32} (h : zcS I j c x) (hc : c ≤ 7) {q : Nat} (hq : q < 7) (v : Int32) : zcS (z_set I (j + 2) q v) j c (zup x (7 + q) v) := by
  refine ⟨?_, fun b hb => ?_, fun b hb => ?_, fun b hb => ?_, ?_, ?_, ?_, ?_, ?_⟩ <;> simp only [z_set, zup]
  · rw [if_neg (by omega)]; exact h.cr
  · rw [if_neg (by omega), if_neg (by omega)]; exact h.g b hb
  · by_cases e : b = q
    · subst e; simp
    · rw [if_neg (by omega), if_neg (by omega)]; exact h.t b hb
  · rw [if_neg (by omega), if_neg (by omega)]; exact h.p b hb
  · rw [if_neg (by omega), if_neg (by omega)]; exact h.s
  · rw [if_neg (by omega), if_neg (by omega)]; exact h.l
  · rw [if_neg (by omega), if_neg (by omega)]; exact h.lg
  · rw [if_neg (by omega), if_neg (by omega)]; exact h.ov
  · rw [if_neg (by omega), if_neg (by omega)]; exact h.h
theorem zcS.pla {I : Nat → Nat → Int32} {j c : Nat} {x : Nat → Int32} (h : zcS I j c x) (hc : c ≤ 7) {q : Nat} (hq : q < 7) (v : Int32) : zcS (z_set I (j + 3) q v) j c (zup x (14 + q) v) := by
  refine ⟨?_, fun b hb => ?_, fun b hb => ?_, fun b hb => ?_, ?_, ?_, ?_, ?_, ?_⟩ <;> simp only [z_set, zup]
  · rw [if_neg (by omega)]; exact h.cr
  · rw [if_neg (by omega), if_neg (by omega)]; exact h.g b hb
  · rw [if_neg (by omega), if_neg (by omega)]; exact h.t b hb
  · by_cases e : b = q
    · subst e; simp
    · rw [if_neg (by omega), if_neg (by omega)]; exact h.p b hb
  · rw [if_neg (by omega), if_neg (by omega)]; exact h.s
  · rw [if_neg (by omega), if_neg (by omega)]; exact h.l
  · rw [if_neg (by omega), if_neg (by omega)]; exact h.lg
  · rw [if_neg (by omega), if_neg (by omega)]; exact h.ov
  · rw [if_neg (by omega), if_neg (by omega)]; exact h.h
def zgk (c : Nat) : Prop := 101 ≤ c ∧ c ≤ 107 ∨ 109 ≤ c ∧ c ≤ 111
/-- the class in a question: T; the guessed ship's row, the row of the ship before, whether the loads are weighed; other rows g -/
def zK (n : Nat) (kd : Nat → Nat × Nat) (I0 : Nat → Nat → Int32) (L0 : Nat → Nat → Int64) (R0 : Nat → Nat → Option Nat) (g : Nat → Nat → Int32) (I : Nat → Nat → Int32) (L : Nat → Nat → Int64) (Rf : Nat → Nat → Option Nat) (T : zT) (G : Option (Nat → Int32)) (Bf : Option (Nat → Int32)) (w : Bool) : Prop := (zC n kd I L Rf T) ∧ (∀ x, G = some x → zcS I 25 T.c x) ∧ (∀ x, Bf = some x → zcS I 29 T.c x) ∧ (w = true → ∀ b, b < T.c → I 108 b = zwt T T.x b) ∧ (∀ c, 112 ≤ c → I c = I0 c ∧ L c = L0 c ∧ Rf c = R0 c) ∧ (∀ c, zgk c → I c = g c)
theorem zK.C {n : Nat} {kd : Nat → Nat × Nat} {I0 : Nat → Nat → Int32} {L0 : Nat → Nat → Int64} {R0 : Nat → Nat → Option Nat} {g : Nat → Nat → Int32} {I : Nat → Nat → Int32} {L : Nat → Nat → Int64} {Rf : Nat → Nat → Option Nat} {T : zT} {G : Option (Nat → Int32)} {Bf : Option (Nat → Int32)} {w : Bool} (h : zK n kd I0 L0 R0 g I L Rf T G Bf w) : zC n kd I L Rf T := h.1
theorem zK.gs {n : Nat} {kd : Nat → Nat × Nat} {I0 : Nat → Nat → Int32} {L0 : Nat → Nat → Int64} {R0 : Nat → Nat → Option Nat} {g : Nat → Nat → Int32} {I : Nat → Nat → Int32} {L : Nat → Nat → Int64} {Rf : Nat → Nat → Option Nat} {T : zT} {G : Option (Nat → Int32)} {Bf : Option (Nat → Int32)} {w : Bool} (h : zK n kd I0 L0 R0 g I L Rf T G Bf w) : ∀ x, G = some x → zcS I 25 T.c x := h.2.1
theorem zK.bf {n : Nat} {kd : Nat → Nat × Nat} {I0 : Nat → Nat → Int32} {L0 : Nat → Nat → Int64} {R0 : Nat → Nat → Option Nat} {g : Nat → Nat → Int32} {I : Nat → Nat → Int32} {L : Nat → Nat → Int64} {Rf : Nat → Nat → Option Nat} {T : zT} {G : Option (Nat → Int32)} {Bf : Option (Nat → Int32)} {w : Bool} (h : zK n kd I0 L0 R0 g I L Rf T G Bf w) : ∀ x, Bf = some x → zcS I 29 T.c x := h.2.2.1
theorem zK.lo {n : Nat} {kd : Nat → Nat × Nat} {I0 : Nat → Nat → Int32} {L0 : Nat → Nat → Int64} {R0 : Nat → Nat → Option Nat} {g : Nat → Nat → Int32} {I : Nat → Nat → Int32} {L : Nat → Nat → Int64} {Rf : Nat → Nat → Option Nat} {T : zT} {G : Option (Nat → Int32)} {Bf : Option (Nat → Int32)} {w : Bool} (h : zK n kd I0 L0 R0 g I L Rf T G Bf w) : w = true → ∀ b, b < T.c → I 108 b = zwt T T.x b := h.2.2.2.1
theorem zK.f {n : Nat} {kd : Nat → Nat × Nat} {I0 : Nat → Nat → Int32} {L0 : Nat → Nat → Int64} {R0 : Nat → Nat → Option Nat} {g : Nat → Nat → Int32} {I : Nat → Nat → Int32} {L : Nat → Nat → Int64} {Rf : Nat → Nat → Option Nat} {T : zT} {G : Option (Nat → Int32)} {Bf : Option (Nat → Int32)} {w : Bool} (h : zK n kd I0 L0 R0 g I L Rf T G Bf w) : ∀ c, 112 ≤ c → I c = I0 c ∧ L c = L0 c ∧ Rf c = R0 c := h.2.2.2.2.1
theorem zK.g {n : Nat} {kd : Nat → Nat × Nat} {I0 : Nat → Nat → Int32} {L0 : Nat → Nat → Int64} {R0 : Nat → Nat → Option Nat} {g : Nat → Nat → Int32} {I : Nat → Nat → Int32} {L : Nat → Nat → Int64} {Rf : Nat → Nat → Option Nat} {T : zT} {G : Option (Nat → Int32)} {Bf : Option (Nat → Int32)} {w : Bool} (h : zK n kd I0 L0 R0 g I L Rf T G Bf w) : ∀ c, zgk c → I c = g c := h.2.2.2.2.2
section ZKL
variable {n : Nat} {sl : Nat × Nat} {kd : Nat → Nat × Nat} {I0 g I I1 : Nat → Nat → Int32} {L0 L L1 : Nat → Nat → Int64} {R0 Rf : Nat → Nat → Option Nat} {T : zT} {G Bf : Option (Nat → Int32)} {w : Bool}
theorem zK.start (h : zC n kd I L Rf T) : zK n kd I L Rf I I L Rf T none none false := ⟨h, fun _ e => (nomatch e), fun _ e => (nomatch e), fun e => (nomatch e), fun _ _ => ⟨rfl, rfl, rfl⟩, fun _ _ => rfl⟩
theorem zK.end {v : Option Value} (h : zK n kd I0 L0 R0 g I L Rf T G Bf w) : zpC n sl kd I0 L0 R0 v T v (n, sl, kd, I, L, Rf) := ⟨rfl, _, _, _, rfl, h.C, h.f⟩
theorem zK.g0 (h : zK n kd I0 L0 R0 g I L Rf T G Bf w) : zK n kd I0 L0 R0 g I L Rf T none Bf w := ⟨h.C, fun _ e => (nomatch e), h.bf, h.lo, h.f, h.g⟩
theorem zK.gu {y : Nat → Int32} (h : zK n kd I0 L0 R0 g I L Rf T G Bf w) (hs : zcS I1 25 T.c y) (hI : ∀ c, c < 25 ∨ 28 < c → I1 c = I c) : zK n kd I0 L0 R0 g I1 L Rf T (some y) Bf w :=
  ⟨h.C.fr h.C.F rfl (fun c hc => hI c (by omega)) rfl (fun _ _ => rfl), fun x e => by cases e; exact hs, fun x e => (h.bf x e).cg (hI _ (by omega)) (hI _ (by omega)) (hI _ (by omega)) (hI _ (by omega)), fun e b hb => by rw [hI 108 (by omega)]; exact h.lo e b hb, fun c hc => by rw [hI c (by omega)]; exact h.f c hc, fun c hc => by rw [hI c (by unfold zgk at hc; omega)]; exact h.g c hc⟩
theorem zK.be {y : Nat → Int32} (h : zK n kd I0 L0 R0 g I L Rf T G Bf w) (hs : zcS I1 29 T.c y) (hI : ∀ c, c < 29 ∨ 32 < c → I1 c = I c) : zK n kd I0 L0 R0 g I1 L Rf T G (some y) w :=
  ⟨h.C.fr h.C.F rfl (fun c hc => hI c (by omega)) rfl (fun _ _ => rfl), fun x e => (h.gs x e).cg (hI _ (by omega)) (hI _ (by omega)) (hI _ (by omega)) (hI _ (by omega)), fun x e => by cases e; exact hs, fun e b hb => by rw [hI 108 (by omega)]; exact h.lo e b hb, fun c hc => by rw [hI c (by omega)]; exact h.f c hc, fun c hc => by rw [hI c (by unfold zgk at hc; omega)]; exact h.g c hc⟩
theorem zK.cpg (h : zK n kd I0 L0 R0 g I L Rf T G Bf w) : zK n kd I0 L0 R0 g (z_cp I 25 21 T.c) L Rf T (some T.x) Bf w := h.gu h.C.sh.cp (fun c hc => z_cp_ne (by omega) (by omega) (by omega) (by omega))
theorem zK.cpb (h : zK n kd I0 L0 R0 g I L Rf T G Bf w) : zK n kd I0 L0 R0 g (z_cp I 29 21 T.c) L Rf T G (some T.x) w := h.be h.C.sh.cp (fun c hc => z_cp_ne (by omega) (by omega) (by omega) (by omega))
theorem zK.sai {x : Nat → Int32} (h : zK n kd I0 L0 R0 g I L Rf T (some x) Bf w) (hc : T.c ≤ 7) {v : Int32} : zK n kd I0 L0 R0 g (z_set I 25 4 v) L Rf T (some (zup x 21 v)) Bf w := h.gu ((h.gs x rfl).sai hc v) (fun c hc => z_set_ne (by omega))
theorem zK.tho {x : Nat → Int32} (h : zK n kd I0 L0 R0 g I L Rf T (some x) Bf w) (hc : T.c ≤ 7) {q : Nat} (hq : q < 7) {v : Int32} : zK n kd I0 L0 R0 g (z_set I 27 q v) L Rf T (some (zup x (7 + q) v)) Bf w := h.gu ((h.gs x rfl).tho hc hq v) (fun c hc => z_set_ne (by omega))
theorem zK.pla {x : Nat → Int32} (h : zK n kd I0 L0 R0 g I L Rf T (some x) Bf w) (hc : T.c ≤ 7) {q : Nat} (hq : q < 7) {v : Int32} : zK n kd I0 L0 R0 g (z_set I 28 q v) L Rf T (some (zup x (14 + q) v)) Bf w := h.gu ((h.gs x rfl).pla hc hq v) (fun c hc => z_set_ne (by omega))
theorem zK.sh {y : Nat → Int32} (h : zK n kd I0 L0 R0 g I L Rf T G Bf w) (hs : zcS I1 21 T.c y) (hI : ∀ c, c < 21 ∨ 24 < c → I1 c = I c) : zK n kd I0 L0 R0 g I1 L Rf (T.w_x y) G Bf false :=
  ⟨h.C.ship hs hI, fun x e => (h.gs x e).cg (hI _ (by omega)) (hI _ (by omega)) (hI _ (by omega)) (hI _ (by omega)), fun x e => (h.bf x e).cg (hI _ (by omega)) (hI _ (by omega)) (hI _ (by omega)) (hI _ (by omega)), fun e => (nomatch e), fun c hc => by rw [hI c (by omega)]; exact h.f c hc, fun c hc => by rw [hI c (by unfold zgk at hc; omega)]; exact h.g c hc⟩
theorem zK.gset (h : zK n kd I0 L0 R0 g I L Rf T G Bf w) {c k : Nat} (hc : zgk c) {v : Int32} : zK n kd I0 L0 R0 (z_set g c k v) (z_set I c k v) L Rf T G Bf w := by
  unfold zgk at hc
  have hI : ∀ q, q < 101 ∨ 111 < q ∨ q = 108 → z_set I c k v q = I q := fun q hq => z_set_ne (by omega)
  refine ⟨h.C.fr h.C.F rfl (fun q hq => hI q (by omega)) rfl (fun _ _ => rfl), fun x e => (h.gs x e).cg (hI _ (by omega)) (hI _ (by omega)) (hI _ (by omega)) (hI _ (by omega)), fun x e => (h.bf x e).cg (hI _ (by omega)) (hI _ (by omega)) (hI _ (by omega)) (hI _ (by omega)), fun e b hb => by rw [hI 108 (by omega)]; exact h.lo e b hb, fun q hq => by rw [hI q (by omega)]; exact h.f q hq, fun q hq => ?_⟩
  funext r
  simp only [z_set]
  split
  · rfl
  · rw [h.g q hq]
theorem zK.tell {vs : List Int32} (h : zK n kd I0 L0 R0 g I L Rf T G Bf w) (hr : z_row I1 L1 3 vs) (ho : z_rof I I1 L L1 3) : zK n kd I0 L0 R0 g I1 L1 Rf (T.w_rw (vs.map Int32.toInt64)) G Bf w := by
  have hI : ∀ q, q ≠ 3 → I1 q = I q := ho.1
  refine ⟨h.C.row ⟨by rw [List.length_map]; exact hr.1, fun k hk => ?_⟩ ho.1, fun x e => (h.gs x e).cg (hI _ (by omega)) (hI _ (by omega)) (hI _ (by omega)) (hI _ (by omega)), fun x e => (h.bf x e).cg (hI _ (by omega)) (hI _ (by omega)) (hI _ (by omega)) (hI _ (by omega)), fun e b hb => by rw [hI 108 (by omega)]; exact h.lo e b hb, fun q hq => by rw [hI q (by omega), ho.2 q (by omega)]; exact h.f q hq, fun q hq => by rw [hI q (by unfold zgk at hq; omega)]; exact h.g q hq⟩
  rw [List.length_map] at hk
  rw [hr.2 k hk]
  simp only [List.getD, List.getElem?_map]
  rw [List.getElem?_eq_getElem hk]; rfl
/-- the loads weighed -/
theorem zK.lod (h : zK n kd I0 L0 R0 g I L Rf T G Bf w) (hl : ∀ b, b < T.c → I1 108 b = zwt T T.x b) (hI : ∀ c, c ≠ 108 → I1 c = I c) : zK n kd I0 L0 R0 g I1 L Rf T G Bf true :=
  ⟨h.C.fr h.C.F rfl (fun c hc => hI c (by omega)) rfl (fun _ _ => rfl), fun x e => (h.gs x e).cg (hI _ (by omega)) (hI _ (by omega)) (hI _ (by omega)) (hI _ (by omega)), fun x e => (h.bf x e).cg (hI _ (by omega)) (hI _ (by omega)) (hI _ (by omega)) (hI _ (by omega)), fun _ => hl, fun c hc => by rw [hI c (by omega)]; exact h.f c hc, fun c hc => by rw [hI c (by unfold zgk at hc; omega)]; exact h.g c hc⟩
end ZKL
theorem z_nI_ab (k : Nat) (hk : k < 2147483648) : z_ab (nI k) = nI k := if_pos (nI_pos' hk)
theorem z_zrow {I : Nat → Nat → Int32} {j c : Nat} {x : Nat → Int32} (h : zcS I j c x) (hc : c ≤ 7) : ∀ o, o < c → zrow I j o = x o ∧ zrow I j (7 + o) = x (7 + o) ∧ zrow I j (14 + o) = x (14 + o) := h.row hc
theorem zsl_T {I : Nat → Nat → Int32} {j H H2 : Nat} {x : Nat → Int32} {T : zT} (hO : zOk H T) (hp : ∀ t, t < 6 → I 6 t = T.pr t) (h : zcS I j T.c x) (hx : zxr T.c H2 x) (ln hr : Int32) : zsl T.rv (I 6) T.c (zrow I j) ln hr T.c = zsl T.rv T.pr T.c x ln hr T.c :=
  zsl_cg (h.row hO.c) hp (fun o ho => by rw [((h.row hO.c) o ho).2.1]; exact hx.t o ho) T.c (Nat.le_refl _)
theorem zwl_T {I : Nat → Nat → Int32} {j H H2 b : Nat} {x : Nat → Int32} {T : zT} (hO : zOk H T) (hp : ∀ t, t < 6 → I 6 t = T.pr t) (h : zcS I j T.c x) (hx : zxr T.c H2 x) (hb : b < T.c) (ln hr : Int32) : zwl T.rv (I 6) T.c (zrow I j) ln hr b = zwl T.rv T.pr T.c x ln hr b :=
  zwl_cg (h.row hO.c) hp (fun o ho => by rw [((h.row hO.c) o ho).2.1]; exact hx.t o ho) hb
theorem k_weight {n : Nat} {sl : Nat × Nat} {kd : Nat → Nat × Nat} {I : Nat → Nat → Int32} {L : Nat → Nat → Int64} {Rf : Nat → Nat → Option Nat} {T : zT} {H : Nat} (d : Nat) (hC : zC n kd I L Rf T) (hO : zOk H T) {j : Nat} (hj : j ∈ zsh) {x : Nat → Int32} (hs : zcS I j T.c x) {H2 : Nat} (hx : zxr T.c H2 x) {b : Nat} (hb : b < T.c) : zq mX6_weight (d + 3) [.ref 5, .ref j, .int (nI b)] (n, sl, kd, I, L, Rf) (eb_r (zwt T x b) (n, sl, kd, I, L, Rf)) := by
  obtain ⟨a, hS, hu⟩ := hC.S
  obtain ⟨s0, h40, hs0, hv⟩ := hu.v
  have h := y_X6_weight (sl := sl) (L := L) d hC.F hS hj (hs.thk hx hO.c) hs0 h40 hb
  rw [show (fun th => z_val (I (a + 1)) th s0) = T.rv from funext hv, zwl_T hO hC.pr hs hx hb, hs.l, hs.h] at h
  exact h
theorem k_ballast {n : Nat} {sl : Nat × Nat} {kd : Nat → Nat × Nat} {I : Nat → Nat → Int32} {L : Nat → Nat → Int64} {Rf : Nat → Nat → Option Nat} {T : zT} {H : Nat} (d : Nat) (hC : zC n kd I L Rf T) (hO : zOk H T) {j : Nat} (hj : j ∈ zsh) {x : Nat → Int32} (hs : zcS I j T.c x) {H2 : Nat} (hx : zxr T.c H2 x) (hH : H2 ≤ 1100000000) (f : Nat) (B : Nat → Int32) : ez_Q (f + 1) B f (fun _ => True) mX6_ballast (d + 5) [.ref 5, .ref j] (n, sl, kd, I, L, Rf) (eb_r (zst T x) (n, sl, kd, I, L, Rf)) := by
  obtain ⟨a, hS, hu⟩ := hC.S
  obtain ⟨s0, h40, hs0, hv⟩ := hu.v
  obtain ⟨hr, hhr, ehr⟩ := hx.h
  have h := y_X6_ballast (sl := sl) (L := L) d hC.F hS hj (hs.thk hx hO.c) hs0 h40 (by rw [hs.l]; exact hx.l) (hs.h.trans ehr) (by omega) f B
  rw [show (fun th => z_val (I (a + 1)) th s0) = T.rv from funext hv, zsl_T hO hC.pr hs hx, hs.l, hs.h] at h
  exact h
/-- the memo of a row's ballast by lean and day -/
def zBm (T : zT) (y : Nat → Int32) : Nat → Int32 := fun q => zsl T.rv T.pr T.c y (nI (q / 7)) (nI (q % 7)) T.c
theorem zwl_sees {I : Nat → Nat → Int32} {a : Nat} {T : zT} (hu : zRu I a T.rv) (y : Nat → Int32) {ln : Int32} (hl : z_rg ln) {h : Nat} (hh : h < 2147483648) (b : Nat) : zwl T.rv T.pr T.c y (nI (z_pl I a (z_ab ln).toNatClampNeg h / 7)) (nI (z_pl I a (z_ab ln).toNatClampNeg h % 7)) b = zwl T.rv T.pr T.c y ln (nI h) b := by
  obtain ⟨h20, hab⟩ := z_ab_rg hl
  have e7 : ∀ k, k < 2147483648 → nI k - nI k / 7 * 7 = nI (k % 7) := fun k hk => z_irm (a := k) (m := 7) hk (by decide) (by decide)
  unfold zwl
  congr 1
  unfold z_pl
  by_cases h9 : I a 9 = 0 <;> by_cases h10 : I a 10 = 0
  · rw [if_pos h9, if_pos h10]
    refine hu.lh h9 h10 _ _ (fun q hq q4 q6 => ?_)
    simp only [z_t7, if_neg q4, if_neg q6]
  · rw [if_pos h9, if_neg h10, show (0 * 7 + h % 7) % 7 = h % 7 from by omega, e7 _ (by omega), e7 _ hh, show h % 7 % 7 = h % 7 from by omega]
    refine hu.l h9 _ _ (fun q hq q4 => ?_)
    simp only [z_t7, if_neg q4]
  · rw [if_neg h9, if_pos h10, show ((z_ab ln).toNatClampNeg * 7 + 0) / 7 = (z_ab ln).toNatClampNeg from by omega, z_nI_ab _ (by omega), ← hab]
    refine hu.h h10 _ _ (fun q hq q6 => ?_)
    simp only [z_t7, if_neg q6]
  · rw [if_neg h9, if_neg h10, show ((z_ab ln).toNatClampNeg * 7 + h % 7) / 7 = (z_ab ln).toNatClampNeg from by omega, show ((z_ab ln).toNatClampNeg * 7 + h % 7) % 7 = h % 7 from by omega, z_nI_ab _ (by omega), ← hab, e7 _ (by omega), e7 _ hh, show h % 7 % 7 = h % 7 from by omega]
theorem zsl_sees {I : Nat → Nat → Int32} {a : Nat} {T : zT} (hu : zRu I a T.rv) (y : Nat → Int32) {ln : Int32} (hl : z_rg ln) {h : Nat} (hh : h < 2147483648) (k : Nat) : zsl T.rv T.pr T.c y (nI (z_pl I a (z_ab ln).toNatClampNeg h / 7)) (nI (z_pl I a (z_ab ln).toNatClampNeg h % 7)) k = zsl T.rv T.pr T.c y ln (nI h) k := by
  induction k with
  | zero => rfl
  | succ k ih => rw [zsl, zsl, ih, zwl_sees hu y hl hh]
/-- the crew's part of two rows is the same -/
def zcr (x y : Nat → Int32) : Prop := ∀ k, k < 21 → x k = y k
theorem zsl_cr {T : zT} {H : Nat} {x y : Nat → Int32} (hc : T.c ≤ 7) (hx : zxr T.c H x) (e : zcr x y) (ln hr : Int32) : zsl T.rv T.pr T.c x ln hr T.c = zsl T.rv T.pr T.c y ln hr T.c :=
  zsl_cg (fun o ho => ⟨e _ (by omega), e _ (by omega), e _ (by omega)⟩) (fun _ _ => rfl) hx.t T.c (Nat.le_refl _)
theorem zBm_cr {T : zT} {H : Nat} {x y : Nat → Int32} (hc : T.c ≤ 7) (hx : zxr T.c H x) (e : zcr x y) : zBm T x = zBm T y := funext fun q => zsl_cr hc hx e _ _
/-- hours by five numbers and by rows -/
def z_5 (x : Nat → Int32) (hr : Nat) : z_S := (x 21, x 22, x 23, x 24, hr)
theorem zhk_crew {T : zT} {x : Nat → Int32} (N : Nat) : zcr (zhk T x N) x := by
  intro k hk
  induction N with
  | zero => rfl
  | succ N ih => rw [zhk, zh1_o (by omega) (by omega) (by omega) (by omega) (by omega)]; exact ih
theorem z_hs_zhk {T : zT} {H H2 : Nat} {x : Nat → Int32} (hO : zOk H T) (hx : zxr T.c H2 x) {hr : Nat} (hhr : x 25 = nI hr) {b : Int32 → Nat → Int32} (hb : ∀ ln h, b ln h = zsl T.rv T.pr T.c x ln (nI h) T.c) {wd : Nat → Int32} (hwd : ∀ h, wd h = T.wd (h % T.wm)) (N : Nat) (hN : hr + N ≤ 2147483648) : z_hs wd b (z_5 x hr) N = z_5 (zhk T x N) (hr + N) ∧ z_hts wd b (z_5 x hr) N = zhc T x N ∧ zhk T x N 25 = nI (hr + N) := by
  induction N with
  | zero => exact ⟨rfl, rfl, hhr⟩
  | succ N ih =>
    obtain ⟨h1, h2, h3⟩ := ih (by omega)
    have hxk := zhk_xr hx hO.wm.1 hO.wd hO.c N
    have ew : wd (hr + N) = zhw T (zhk T x N) := by rw [hwd]; unfold zhw; rw [h3, nI_clamp (by omega)]
    have el : z_hl wd b (z_5 (zhk T x N) (hr + N)) = zhl T (zhw T (zhk T x N)) (zhk T x N) := by
      unfold z_hl zhl z_5
      simp only
      rw [ew, hb, h3, zsl_cr hO.c hxk (zhk_crew N)]
    refine ⟨?_, ?_, ?_⟩
    · rw [z_hs, h1]
      unfold z_h z_hg
      rw [el]
      simp only [z_5]
      rw [ew, zhk]
      by_cases e : z_ab (zhl T (zhw T (zhk T x N)) (zhk T x N)) < 15
      · rw [if_pos e, zh1_21, zh1_22, zh1_23, zh1_24, if_pos e, if_pos e]; rfl
      · rw [if_neg e, zh1_21, zh1_22, zh1_23, zh1_24, if_neg e, if_neg e]; rfl
    · rw [z_hts, h1, h2, zhc]
      unfold z_ht zho
      rw [el]
    · rw [zhk, zh1_25, h3, nI_1]; rfl
def k_hp (n : Nat) (sl : Nat × Nat) (kd : Nat → Nat × Nat) (I : Nat → Nat → Int32) (L : Nat → Nat → Int64) (Rf : Nat → Nat → Option Nat) (j c : Nat) (x : Nat → Int32) (v : Int32) : Option Value → eb_S → Prop := fun r τ => r = some (.int v) ∧ ∃ I1, τ = (n, sl, kd, I1, L, Rf) ∧ zcS I1 j c x ∧ ∀ q, q ≠ j → I1 q = I q
theorem k_hp_ok {n : Nat} {sl : Nat × Nat} {kd : Nat → Nat × Nat} {I : Nat → Nat → Int32} {L : Nat → Nat → Int64} {Rf : Nat → Nat → Option Nat} {j c : Nat} {x : Nat → Int32} {v : Int32} {l : List (Nat × Value)} {rest : List Value} : ∀ r1 σ1, k_hp n sl kd I L Rf j c x v r1 σ1 → σ1.1 = n ∨ ((∀ q ∈ l, eb_okv n q.2) ∧ ∀ v ∈ rest, eb_okv n v) := fun _ _ h => Or.inl (by obtain ⟨_, I1, h, _⟩ := h; rw [h])
theorem k_let {n : Nat} {sl : Nat × Nat} {kd : Nat → Nat × Nat} {I : Nat → Nat → Int32} {L : Nat → Nat → Int64} {Rf : Nat → Nat → Option Nat} {T : zT} {H : Nat} (d : Nat) (hC : zC n kd I L Rf T) (hO : zOk H T) {j : Nat} (hj : j ∈ zsh) {x : Nat → Int32} (hs : zcS I j T.c x) {H2 : Nat} (hx : zxr T.c H2 x) (hH : H2 ≤ 1100000000) {N : Nat} (hN : N ≤ 1000000) {y : Nat → Int32} (hy : zcr x y) (f : Nat) : ez_Q f (zBm T y) f (fun C => C = zBm T y) mX6_letHoursGo (d + 5) [.ref 5, .ref j, .int (nI N)] (n, sl, kd, I, L, Rf) (k_hp n sl kd I L Rf j T.c (zhk T x N) (zhc T x N)) := by
  obtain ⟨a, hS, hu⟩ := hC.S
  obtain ⟨s0, h40, hs0, hv⟩ := hu.v
  obtain ⟨hr, hhr, ehr⟩ := hx.h
  have hrv : (fun th => z_val (I (a + 1)) th s0) = T.rv := funext hv
  have hbl : ∀ ln h, zbl T.rv (I 6) T.c (zrow I j) ln h = zsl T.rv T.pr T.c x ln (nI h) T.c := fun ln h => zsl_T hO hC.pr hs hx ln (nI h)
  have h := y_X6_letHoursGo (sl := sl) (L := L) d hC.F hS hj (hs.thk hx hO.c) hs0 h40 (by rw [hs.l]; exact hx.l) (hs.h.trans ehr) hC.wm hO.wm.1 hO.wm.2 (N := N) (by omega) (B := zBm T y) (by
    intro ln h hl hh
    rw [hrv, hbl, ← zBm_cr hO.c hx hy]
    exact zsl_sees hu x hl hh T.c) f
  rw [hrv, show zhS I j hr = z_5 x hr from by unfold zhS z_5; rw [hs.s, hs.l, hs.lg, hs.ov]] at h
  obtain ⟨e1, e2, e3⟩ := z_hs_zhk hO hx ehr hbl (wd := fun h => I 7 (h % T.wm)) (fun h => hC.wd _ (Nat.mod_lt _ hO.wm.1)) N (by omega)
  rw [e1, e2] at h
  have hbj := zsh_b j hj
  refine h.to ?_
  rintro _ _ ⟨rfl, rfl⟩
  have hcr := zhk_crew (T := T) (x := x) N
  have hc7 := hO.c
  refine ⟨rfl, _, rfl, ⟨?_, fun b hb => ?_, fun b hb => ?_, fun b hb => ?_, ?_, ?_, ?_, ?_, ?_⟩, fun q hq => z_sp_ne hq⟩
  · simp [z_sp]; exact hs.cr
  · rw [z_sp_ne (by omega), hcr _ (by omega)]; exact hs.g b hb
  · rw [z_sp_ne (by omega), hcr _ (by omega)]; exact hs.t b hb
  · rw [z_sp_ne (by omega), hcr _ (by omega)]; exact hs.p b hb
  · simp [z_sp, z_5]
  · simp [z_sp, z_5]
  · simp [z_sp, z_5]
  · simp [z_sp, z_5]
  · simp [z_sp, z_5]; exact e3.symm
theorem k_begin {n : Nat} {sl : Nat × Nat} {kd : Nat → Nat × Nat} {I : Nat → Nat → Int32} {L : Nat → Nat → Int64} {Rf : Nat → Nat → Option Nat} {T : zT} (d : Nat) (hC : zC n kd I L Rf T) (f : Nat) (B C : Nat → Int32) : ez_Q (f + 1) B f (fun D => D = C) mX6_begin d [.ref 5] (n, sl, kd, I, L, Rf) (eb_v (n, sl, kd, I, L, Rf)) := by
  obtain ⟨a, hS, _⟩ := hC.S
  exact y_X6_begin d hC.F hS f B C
theorem k_wind {n : Nat} {sl : Nat × Nat} {kd : Nat → Nat × Nat} {I : Nat → Nat → Int32} {L : Nat → Nat → Int64} {Rf : Nat → Nat → Option Nat} {T : zT} {H : Nat} (d : Nat) (hC : zC n kd I L Rf T) (hO : zOk H T) {x : Nat → Int32} {H2 : Nat} (hx : zxr T.c H2 x) (hH : H2 ≤ 1100000000) : zq mX6_windAt d [.ref 5, .int (x 25)] (n, sl, kd, I, L, Rf) (eb_r (zhw T x) (n, sl, kd, I, L, Rf)) := by
  obtain ⟨a, hS, _⟩ := hC.S
  obtain ⟨hr, hhr, ehr⟩ := hx.h
  have h := y_X6_windAt (sl := sl) (I := I) (L := L) d (hC.F.sea hS) rfl hC.wm hO.wm.1 hO.wm.2 (k := hr) (by omega)
  rw [show I (5 + 2) (hr % T.wm) = zhw T x from by unfold zhw; rw [ehr, nI_clamp (by omega)]; exact hC.wd _ (Nat.mod_lt _ hO.wm.1)] at h
  rw [ehr]; exact h
theorem k_price {n : Nat} {sl : Nat × Nat} {kd : Nat → Nat × Nat} {I : Nat → Nat → Int32} {L : Nat → Nat → Int64} {Rf : Nat → Nat → Option Nat} {T : zT} (d : Nat) (hC : zC n kd I L Rf T) {t : Nat} (ht : t < 6) : zq mX6_priceOf d [.ref 5, .int (nI t)] (n, sl, kd, I, L, Rf) (eb_r (T.pr t) (n, sl, kd, I, L, Rf)) := by
  obtain ⟨a, hS, _⟩ := hC.S
  have h := y_X6_priceOf (sl := sl) (I := I) (L := L) d (hC.F.sea hS) rfl ht
  rw [show I (5 + 1) t = T.pr t from hC.pr t ht] at h
  exact h
