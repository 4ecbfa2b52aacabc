/-! the state behind the constructors; the state as the memory has it -/
def zx0 : Nat → Int32 := fun k => if k = 21 then 5 else 0
def zT0 : zT := ([], [], zpr0, 1, fun _ => 0, zrv0, 0, zx0, [], fun _ => none, [], [])
theorem zOk0 : zOk 1 zT0 := by
  refine ⟨Nat.zero_le _, fun k hk => absurd hk (Nat.not_lt_zero k), Nat.zero_le _, fun t ht => ?_, ⟨by decide, by decide⟩, fun k _ => ⟨9, by decide, (show (0 : Int32) = nI 9 - 9 by decide)⟩, Nat.zero_le _, ⟨fun b hb => absurd hb (Nat.not_lt_zero b), fun b hb => absurd hb (Nat.not_lt_zero b), fun b hb => absurd hb (Nat.not_lt_zero b), ⟨5, by decide, rfl⟩, ⟨20, by decide, by decide⟩, ⟨0, by decide, rfl⟩, ⟨0, by decide, rfl⟩, ⟨0, by decide, rfl⟩⟩, Nat.zero_le _, fun y hy => absurd hy List.not_mem_nil, fun i y e => (nomatch e), Nat.zero_le _, fun q hq => absurd hq List.not_mem_nil, Nat.zero_le _, fun q hq => absurd hq List.not_mem_nil, fun th th' e => (show zrv0 th = zrv0 th' from zrv_as e)⟩
  show ∃ v, v < 10 ∧ zpr0 t = nI v
  rcases (by omega : t = 0 ∨ t = 1 ∨ t = 2 ∨ t = 3 ∨ t = 4 ∨ t = 5) with rfl | rfl | rfl | rfl | rfl | rfl
  · exact ⟨0, by decide, rfl⟩
  · exact ⟨1, by decide, rfl⟩
  · exact ⟨3, by decide, rfl⟩
  · exact ⟨5, by decide, rfl⟩
  · exact ⟨7, by decide, rfl⟩
  · exact ⟨9, by decide, rfl⟩
section ZI0
variable {kd : Nat → Nat × Nat} {I Js : Nat → Nat → Int32} {L : Nat → Nat → Int64} {R : Nat → Nat → Option Nat}
set_option maxRecDepth 100000 in
theorem zC0 (hse : zSe Js) (hsf : ∀ q, q < 5 ∨ 20 < q → Js q = i_t10b (z_zi I 0) q) (hk : (kd 1000050).2 = 5) (hm : I 1000050 0 = 9 ∧ I 1000050 1 = 5 ∧ I 1000050 2 = 1 ∧ I 1000050 3 = 5 ∧ I 1000050 4 = 9) : zC 138 (zKF kd) (zIF Js) L (zRF R) zT0 := by
  have e50 : ∀ q, Js 1000050 q = I 1000050 q := fun q => (congrFun (hsf 1000050 (by omega)) q).trans rfl
  refine ⟨zF_F kd R, ⟨8, ⟨rfl, rfl, Or.inl rfl⟩, hse.1.cg rfl rfl⟩, ⟨?_, fun k hk => absurd hk (Nat.not_lt_zero k)⟩, ⟨?_, fun k hk => absurd hk (Nat.not_lt_zero k)⟩, hse.2.1, hse.2.2.1, fun k hk => ?_, ⟨rfl, fun b hb => absurd hb (Nat.not_lt_zero b), fun b hb => absurd hb (Nat.not_lt_zero b), fun b hb => absurd hb (Nat.not_lt_zero b), rfl, rfl, rfl, rfl, rfl⟩, ⟨0, by decide, rfl, rfl, fun k y h => (nomatch h)⟩, fun i hi => Or.inl rfl, ⟨rfl, fun k q h => (nomatch h)⟩, ⟨rfl, fun k q h => (nomatch h)⟩, Or.inl ⟨rfl, rfl⟩, hk, (e50 0).trans hm.1, (e50 1).trans hm.2.1, (e50 2).trans hm.2.2.1, (e50 3).trans hm.2.2.2.1, (e50 4).trans hm.2.2.2.2⟩
  · exact (congrFun (hsf 1 (by omega)) 1).trans rfl
  · exact (congrFun (hsf 3 (by omega)) 1).trans rfl
  · have e : k = 0 := by
      have : k < 1 := hk
      omega
    subst e; exact hse.2.2.2.1
theorem zM0 : zM 138 (zKF kd) (zIF Js) L (zRF R) zT0 := by
  refine ⟨zF_F kd R, rfl, ⟨0, by decide, rfl, fun k hk => absurd hk (Nat.not_lt_zero k), fun th => rfl⟩, ⟨rfl, fun k hk => absurd hk (Nat.not_lt_zero k)⟩, ⟨rfl, fun k hk => absurd hk (Nat.not_lt_zero k)⟩, fun t ht => ?_, rfl, fun k hk => rfl, rfl, fun k hk => ?_, ⟨rfl, fun j y h => (nomatch h)⟩, ⟨0, by decide, Nat.le_refl _, rfl, fun i hi => Or.inl rfl⟩, ⟨rfl, fun k q h => (nomatch h)⟩, ⟨rfl, fun k q h => (nomatch h)⟩⟩
  · rcases (by omega : t = 0 ∨ t = 1 ∨ t = 2 ∨ t = 3 ∨ t = 4 ∨ t = 5) with rfl | rfl | rfl | rfl | rfl | rfl <;> rfl
  · show zIF Js 113 k = zx0 k
    unfold zx0
    by_cases e : k = 21
    · subst e; rfl
    · rw [if_neg e]
      refine (show zIF Js 113 k = (if 113 = 113 ∧ k = 21 then (5 : Int32) else 0) from rfl).trans ?_
      rw [if_neg (fun g => e g.2)]
set_option maxRecDepth 100000 in
theorem zInv0 (hse : zSe Js) : zInv 900000000 (fun _ => 0) (zIF Js) := ⟨⟨0, ⟨hse.2.2.2.2.1, fun q hq => ⟨0, Nat.le_refl _, hse.2.2.2.2.2.2 q⟩⟩, by decide⟩, fun q hq _ => hse.2.2.2.2.2.1 q⟩
end ZI0
theorem zRu.E {f : Nat} {B : Nat → Int32} {I I7 : Nat → Nat → Int32} {Rf R7 : Nat → Nat → Option Nat} {a : Nat} {rv : (Nat → Int32) → Int32} (h : zRu I a rv) (ha : a = 8 ∨ a = 13) (g : zE f B I I7 Rf R7) : zRu I7 a rv := h.cg (g.cell (by unfold znc; omega)) (g.cell (by unfold znc; omega))
theorem zC.E {n : Nat} {kd : Nat → Nat × Nat} {I I7 : Nat → Nat → Int32} {L : Nat → Nat → Int64} {Rf R7 : Nat → Nat → Option Nat} {T : zT} {f : Nat} {B : Nat → Int32} (h : zC n kd I L Rf T) (g : zE f B I I7 Rf R7) : zC n kd I7 L R7 T := by
  obtain ⟨a, hS, hu⟩ := h.S
  have hc : ∀ c, (c < 112 ∧ znc c) ∨ c = 1000050 → I7 c = I c := fun c hc => g.cell (by rcases hc with hc | hc; exact hc.2; subst hc; unfold znc; omega)
  have hn : ∀ c, c < 5 ∨ c = 6 ∨ c = 7 ∨ 20 < c ∧ c < 112 → I7 c = I c := fun c hc2 => g.cell (by unfold znc; omega)
  refine ⟨h.F.tr g.2.1, ⟨a, hS.tr g.2.1, hu.E hS.2.2 g⟩, h.tx.cg (hn 1 (by omega)) (hn 2 (by omega)), h.rw.cg (hn 3 (by omega)) rfl, by rw [hn 6 (by omega)]; exact h.pr, (g.1 5 2 (by unfold zscr; omega)).trans h.wm, by rw [hn 7 (by omega)]; exact h.wd, h.sh.cg (hn 21 (by omega)) (hn 22 (by omega)) (hn 23 (by omega)) (hn 24 (by omega)), h.un.cg (fun c h1 h2 => hn c (by omega)), h.kp.cg (fun c h1 h2 => hn c (by omega)), h.sn.cg (fun c h1 h2 => hn c (by omega)), h.hd.cg (fun c h1 h2 => hn c (by omega)), ?_, ?_⟩
  · rw [g.2.1 102 0 (by omega), g.2.1 102 1 (by omega)]; exact h.ch
  · rw [hc 1000050 (Or.inr rfl)]; exact h.hm
/-- the state of both, as the memory has it -/
def zL (n : Nat) (kd : Nat → Nat × Nat) (I : Nat → Nat → Int32) (L : Nat → Nat → Int64) (Rf : Nat → Nat → Option Nat) (T : zT) (H f : Nat) : Prop := zC n kd I L Rf T ∧ zM n kd I L Rf T ∧ zOk H T ∧ ∃ B, zInv f B I
theorem zE.rf {f : Nat} {B : Nat → Int32} {I : Nat → Nat → Int32} {Rf : Nat → Nat → Option Nat} (h : zInv f B I) : zE f B I I Rf Rf := ⟨fun _ _ _ => rfl, fun _ _ _ => rfl, h⟩
/-- behind a call on the class: the reference lies as it was -/
def zpXc (n : Nat) (sl : Nat × Nat) (kd : Nat → Nat × Nat) (I : Nat → Nat → Int32) (L : Nat → Nat → Int64) (Rf : Nat → Nat → Option Nat) (T T1 : zT) (f : Nat) (v : Option Value) : Option Value → eb_S → Prop := fun r τ => r = v ∧ ∃ I1 L1 R1, τ = (n, sl, kd, I1, L1, R1) ∧ zC n kd I1 L1 R1 T1 ∧ zM n kd I1 L1 R1 T ∧ (∃ B, zInv f B I1) ∧ I1 1000060 = I 1000060
