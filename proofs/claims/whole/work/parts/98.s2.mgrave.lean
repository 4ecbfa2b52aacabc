/-! the reference: grave -/
theorem z_lc0 : lg_cmp (lN 0) 0 = 0 := by decide
theorem z_lcn {b : Nat} (h0 : 0 < b) (hb : b < 2 ^ 63) : ¬ lg_cmp (lN b) 0 = 0 := by
  have h1 : (0 : Int64) < lN b := by rw [show (0 : Int64) = lN 0 from rfl]; exact (pk_lLT (by decide) hb).mpr h0
  have h2 : ¬ lN b < 0 := fun g => Int64.lt_irrefl (Int64.lt_trans h1 g)
  have h3 : ¬ lN b = 0 := fun g => by rw [g] at h1; exact Int64.lt_irrefl h1
  unfold lg_cmp
  simp only [Int64.lt_iff_toInt_lt] at *
  have h0' : (0 : Int64).toInt = 0 := rfl
  rw [h0'] at *
  simp only [pk_lT hb] at *
  first | (rw [if_neg (by omega), if_neg (by omega)]; decide) | (rw [if_neg (by omega), if_pos (by omega)]; decide) | (split <;> first | (split <;> first | decide | omega) | decide | omega) | simp_all
def eb_rl (x : Int64) (σ : eb_S) : Option Value → eb_S → Prop := fun r τ => τ = σ ∧ r = some (.long x)
theorem eb_rlok {x : Int64} {σ : eb_S} {l : List (Nat × Value)} {rest : List Value} : ∀ r1 σ1, eb_rl x σ r1 σ1 → σ1.1 = σ.1 ∨ ((∀ q ∈ l, eb_okv σ.1 q.2) ∧ ∀ v ∈ rest, eb_okv σ.1 v) := fun _ _ h => Or.inl (by rw [h.1])
theorem q_common0 {n : Nat} {sl : Nat × Nat} {kd : Nat → Nat × Nat} {I : Nat → Nat → Int32} {L : Nat → Nat → Int64} {Rf : Nat → Nat → Option Nat} (d : Nat) (a : Nat) : eb_Q mX11_common (d) [.long (lN a), .long (lN 0)] (n, sl, kd, I, L, Rf) (eb_rl (lN (Nat.gcd a 0)) (n, sl, kd, I, L, Rf)) := by
  refine ep_meth pn_X.2.2.2.2.2.2.2.2.2.2.2 (Nat.le_of_ble_eq_true rfl) ?_
  show eb_P _ _ 0 [(0, .long (lN a)), (2, .long (lN 0))] [] (n, sl, kd, I, L, Rf) _
  refine ep_lload_n (i := 2) dX11_common_0 rfl rfl ?_
  refine ep_lconst (v := 0) dX11_common_1 (by decide) ?_
  refine ep_lcmp dX11_common_2 ?_
  refine ep_if_ne (tgt := 10) dX11_common_3 (by decide) (fun c1 => absurd c1 (fun h => h z_lc0)) (fun c1 => ?_)
  refine ep_lload_n (i := 0) dX11_common_6 rfl rfl ?_
  refine ep_goto (tgt := 17) dX11_common_7 (by decide) ?_
  refine ep_lret dX11_common_17 rfl ?_
  exact ⟨rfl, by rw [Nat.gcd_zero_right]⟩
theorem q_common1 {n : Nat} {sl : Nat × Nat} {kd : Nat → Nat × Nat} {I : Nat → Nat → Int32} {L : Nat → Nat → Int64} {Rf : Nat → Nat → Option Nat} (d : Nat) {a b : Nat} (ha : a < 2 ^ 63) (h0 : 0 < b) (hb : b < 2 ^ 63) (hk : eb_Q mX11_common d [.long (lN b), .long (lN (a % b))] (n, sl, kd, I, L, Rf) (eb_rl (lN (Nat.gcd a b)) (n, sl, kd, I, L, Rf))) : eb_Q mX11_common (d + 1) [.long (lN a), .long (lN b)] (n, sl, kd, I, L, Rf) (eb_rl (lN (Nat.gcd a b)) (n, sl, kd, I, L, Rf)) := by
  have hn0 : ¬ lN b = 0 := fun g => by rw [show (0 : Int64) = lN 0 from rfl, pk_lEQ hb (by decide)] at g; omega
  refine ep_meth pn_X.2.2.2.2.2.2.2.2.2.2.2 (Nat.le_of_ble_eq_true rfl) ?_
  show eb_P _ _ 0 [(0, .long (lN a)), (2, .long (lN b))] [] (n, sl, kd, I, L, Rf) _
  refine ep_lload_n (i := 2) dX11_common_0 rfl rfl ?_
  refine ep_lconst (v := 0) dX11_common_1 (by decide) ?_
  refine ep_lcmp dX11_common_2 ?_
  refine ep_if_ne (tgt := 10) dX11_common_3 (by decide) (fun c1 => ?_) (fun c1 => absurd (z_lcn h0 hb) c1)
  refine ep_lload_n (i := 2) dX11_common_10 rfl rfl ?_
  refine ep_lload_n (i := 0) dX11_common_11 rfl rfl ?_
  refine ep_lload_n (i := 2) dX11_common_12 rfl rfl ?_
  refine ep_lrem dX11_common_13 hn0 ?_
  refine ep_eq (st2 := [.long (lN (a % b)), .long (lN b)]) rfl rfl (by rw [pk_lRem ha h0 hb]) rfl ?_
  refine ep_callS (M1 := mX11_common) (rest := []) dX11_common_14 mlX11_355 msX11_common rfl (Nat.le_of_ble_eq_true rfl) rfl (hk) eb_rlok ?_
  rintro _ _ ⟨rfl, rfl⟩
  show eb_P _ _ 17 [(0, .long (lN a)), (2, .long (lN b))] [.long (lN (Nat.gcd a b))] (n, sl, kd, I, L, Rf) _
  refine ep_lret dX11_common_17 rfl ?_
  exact ⟨rfl, rfl⟩
theorem q_common {n : Nat} {sl : Nat × Nat} {kd : Nat → Nat × Nat} {I : Nat → Nat → Int32} {L : Nat → Nat → Int64} {Rf : Nat → Nat → Option Nat} : ∀ (t d a b : Nat), a < 2 ^ 63 → b < 2 ^ 63 → b < 2 ^ t → eb_Q mX11_common (d + 2 * t) [.long (lN a), .long (lN b)] (n, sl, kd, I, L, Rf) (eb_rl (lN (Nat.gcd a b)) (n, sl, kd, I, L, Rf))
  | 0, d, a, b, _, _, hb => by
    have e : b = 0 := by simpa using hb
    subst e; exact q_common0 d a
  | t + 1, d, a, b, ha, hb, ht => by
    by_cases e : b = 0
    · subst e; exact q_common0 _ a
    have h1 := Nat.mod_lt a (show 0 < b by omega)
    refine q_common1 (d + 2 * t + 1) ha (by omega) hb ?_
    rw [show Nat.gcd a b = Nat.gcd b (a % b) from by rw [Nat.gcd_comm, Nat.gcd_rec b a, Nat.gcd_comm]]
    by_cases e2 : a % b = 0
    · rw [e2]; exact q_common0 _ b
    refine q_common1 (d + 2 * t) hb (by omega) (by omega) ?_
    have h2 := Nat.mod_lt b (show 0 < a % b by omega)
    have h3 : b % (a % b) + (a % b) ≤ b := by
      have h4 := Nat.div_add_mod b (a % b)
      have h5 : 1 ≤ b / (a % b) := (Nat.one_le_div_iff (by omega)).mpr (by omega)
      have h6 := Nat.mul_le_mul_left (a % b) h5
      omega
    have h7 : 2 ^ (t + 1) = 2 * 2 ^ t := by rw [Nat.pow_succ]; omega
    rw [show Nat.gcd b (a % b) = Nat.gcd (a % b) (b % (a % b)) from by rw [Nat.gcd_comm, Nat.gcd_rec (a % b) b, Nat.gcd_comm]]
    exact q_common t d (a % b) (b % (a % b)) (by omega) (by omega) (by omega)
def zgU (T : zT) (p n m : Nat) : Nat := znsum (fun s => if zgn T s n = 0 then 0 else zgt p s n) m
def s_graveok (T : zT) (n p : Nat) : Int32 × zT := (0, T.w_rw [lN (zgu T p n / Nat.gcd (zgu T p n) (10 ^ n)), lN (10 ^ n / Nat.gcd (zgu T p n) (10 ^ n))])
def s_grave (T : zT) (n p : Int32) : Int32 × zT := if (0 ≤ n ∧ n ≤ 8) ∧ (0 ≤ p ∧ p ≤ 10) then s_graveok T n.toNatClampNeg p.toNatClampNeg else (-1, T)
theorem zg_shl : ∀ n, n ≤ 8 → (1 : Int32) <<< (nI n &&& 31) = nI (2 ^ n) := by decide
theorem zg_bit : ∀ s, s < 256 → ∀ k, k < 8 → ((nI s >>> (nI k &&& 31) &&& 1 = 1) ↔ s.testBit k = true) := by decide +kernel
theorem zg_p256 : ∀ n, n ≤ 8 → 2 ^ n ≤ 256 := by decide
theorem zg_10 : ∀ n, n ≤ 8 → 10 ^ n ≤ 100000000 := by decide
theorem zgw_y {s k : Nat} (h : s.testBit k = true) : zgw s k = 9 := by unfold zgw; rw [if_pos h]
theorem zgw_n {s k : Nat} (h : ¬ s.testBit k = true) : zgw s k = -9 := by unfold zgw; rw [if_neg h]
theorem zgt_y {p s k : Nat} (hp : p ≤ 10) (h : s.testBit k = true) : lN (zgt p s k) * (nI p).toInt64 = lN (zgt p s (k + 1)) := by rw [nI_l (by omega), lN_mul, zgt, if_pos h]
theorem zgt_n {p s k : Nat} (hp : p ≤ 10) (h : ¬ s.testBit k = true) : lN (zgt p s k) * (10 - nI p).toInt64 = lN (zgt p s (k + 1)) := by
  have : (10 : Int32) - nI p = nI (10 - p) := by
    rcases (by omega : p = 0 ∨ p = 1 ∨ p = 2 ∨ p = 3 ∨ p = 4 ∨ p = 5 ∨ p = 6 ∨ p = 7 ∨ p = 8 ∨ p = 9 ∨ p = 10) with rfl | rfl | rfl | rfl | rfl | rfl | rfl | rfl | rfl | rfl | rfl <;> decide
  rw [this, nI_l (by omega), lN_mul, zgt, if_neg h]
theorem zgn_s {T : zT} {s k : Nat} {w : Int32} (h : zgw s k = w) : nI (zgn T s k) + zho T w (zgx T s k) = nI (zgn T s (k + 1)) := by
  rw [zgn, h]; unfold zho
  split
  · rw [Nat.add_zero]; exact Int32.add_zero _
  · exact nI_1 _
theorem zgn_le {T : zT} {s : Nat} : ∀ k, zgn T s k ≤ k
  | 0 => Nat.le_refl _
  | k + 1 => by have := zgn_le (T := T) (s := s) k; rw [zgn]; split <;> omega
theorem zgU_0 {T : zT} {p n s : Nat} (h : zgn T s n = 0) : lN (zgU T p n s) + 0 = lN (zgU T p n (s + 1)) := by
  unfold zgU; rw [znsum, if_pos h, Nat.add_zero]; exact Int64.add_zero _
theorem zgU_1 {T : zT} {p n s : Nat} (h : ¬ zgn T s n = 0) : lN (zgU T p n s) + lN (zgt p s n) = lN (zgU T p n (s + 1)) := by
  unfold zgU; rw [znsum, if_neg h, lN_add]
theorem zq_rl {σ : eb_S} {M : eb_M} {d : Nat} {as : List Value} {x : Int64} (h : ∀ I R, eb_Q M d as (σ.1, σ.2.1, σ.2.2.1, I, σ.2.2.2.2.1, R) (eb_rl x (σ.1, σ.2.1, σ.2.2.1, I, σ.2.2.2.2.1, R))) : zq M d as σ (eb_rl x σ) := fun f B I7 R7 h7 => (h I7 R7).to (by rintro _ _ ⟨rfl, rfl⟩; exact ⟨_, _, B, rfl, h7, rfl, rfl⟩)
theorem y_X11_grave_ok {n : Nat} {sl : Nat × Nat} {kd : Nat → Nat × Nat} {I : Nat → Nat → Int32} {L : Nat → Nat → Int64} {Rf : Nat → Nat → Option Nat} (d : Nat) {T : zT} {H : Nat} (hM : zM n kd I L Rf T) (hO : zOk H T) (hH : H ≤ 1000000000) {n0 p0 : Nat} (hn : n0 ≤ 8) (hp : p0 ≤ 10) : zq mX11_grave (d + 400) [.ref 112, .int (nI n0), .int (nI p0)] (n, sl, kd, I, L, Rf) (zpM n sl kd I L Rf (some (.int (s_graveok T n0 p0).1)) (s_graveok T n0 p0).2) := by
  have hF := hM.F; have hc7 := hO.c
  intro f B
  refine ez_meth pn_X.2.2.2.2.2.2.2.2.2.2.2 (Nat.le_of_ble_eq_true rfl) ?_
  have hu := zgu_le (T := T) hp n0; have h10 := zg_10 n0 hn; have h10p : 0 < 10 ^ n0 := Nat.pow_pos (by decide); have h256 := zg_p256 n0 hn
  have hgp : 0 < Nat.gcd (zgu T p0 n0) (10 ^ n0) := Nat.gcd_pos_of_pos_right _ h10p
  have hgl : Nat.gcd (zgu T p0 n0) (10 ^ n0) ≤ 10 ^ n0 := Nat.gcd_le_right _ h10p
  have hg0 : ¬ lN (Nat.gcd (zgu T p0 n0) (10 ^ n0)) = 0 := fun g => by rw [show (0 : Int64) = lN 0 from rfl, pk_lEQ (by omega) (by decide)] at g; omega
  have hn8 : nI n0 ≤ 8 := by rw [show (8 : Int32) = nI 8 by decide]; exact nI_le hn (by decide)
  have hp10 : nI p0 ≤ 10 := by rw [show (10 : Int32) = nI 10 by decide]; exact nI_le hp (by decide)
  show ez_P _ _ _ _ _ _ 0 [(0, .ref 112), (1, .int (nI n0)), (2, .int (nI p0))] [] (n, sl, kd, I, L, Rf) _
  refine ez_aload_n (i := 0) dX11_grave_0 rfl rfl ?_
  refine ez_iconst (v := 0) dX11_grave_1 (by decide) ?_
  refine ez_pI dX11_grave_2 plX11_89 (hF.lt (by decide)) (hF.lx (by decide)) (hF.kc (by decide) rfl) rfl rfl ?_
  refine ez_nmI (fun I1 hI1 => ?_)
  have hQ2 : zQ n kd I L Rf I I1 L T (I 124) (I 112 25) := by rw [hI1]; exact zQ.start hM
  refine ez_iload_n (i := 1) dX11_grave_5 rfl rfl ?_
  refine ez_iconst (v := 0) dX11_grave_6 (by decide) ?_
  refine ez_bipush (v := 8) dX11_grave_7 (by decide) ?_
  refine ez_callS (M1 := mX11_in) (rest := []) dX11_grave_9 mlX11_98 msX11_in rfl (Nat.le_of_ble_eq_true rfl) rfl (zq_b1 (⟨nI_pos' (by omega), hn8⟩) (zq_b (q_X11_in (d + 399) (nI n0) 0 8) (n, sl, kd, I1, L, Rf))) eb_rok ?_
  rintro _ _ ⟨rfl, rfl⟩
  show ez_P _ _ _ _ _ _ 12 [(0, .ref 112), (1, .int (nI n0)), (2, .int (nI p0))] (.int 1 :: []) _ _
  refine ez_if_eq (tgt := 25) dX11_grave_12 (by decide) (fun c3 => absurd c3 (by decide)) (fun c3 => ?_)
  refine ez_iload_n (i := 2) dX11_grave_15 rfl rfl ?_
  refine ez_iconst (v := 0) dX11_grave_16 (by decide) ?_
  refine ez_bipush (v := 10) dX11_grave_17 (by decide) ?_
  refine ez_callS (M1 := mX11_in) (rest := []) dX11_grave_19 mlX11_98 msX11_in rfl (Nat.le_of_ble_eq_true rfl) rfl (zq_b1 (⟨nI_pos' (by omega), hp10⟩) (zq_b (q_X11_in (d + 399) (nI p0) 0 10) (n, sl, kd, I1, L, Rf))) eb_rok ?_
  rintro _ _ ⟨rfl, rfl⟩
  show ez_P _ _ _ _ _ _ 22 [(0, .ref 112), (1, .int (nI n0)), (2, .int (nI p0))] (.int 1 :: []) _ _
  refine ez_if_ne (tgt := 27) dX11_grave_22 (by decide) (fun c4 => ?_) (fun c4 => absurd (by decide) c4)
  refine ez_lconst (v := 0) dX11_grave_27 (by decide) ?_
  refine ez_lstore_n (l' := [(3, .long 0), (0, .ref 112), (1, .int (nI n0)), (2, .int (nI p0))]) dX11_grave_28 rfl (by decide) rfl ?_
  refine ez_lconst (v := 1) dX11_grave_29 (by decide) ?_
  refine ez_lstore (l' := [(5, .long 1), (3, .long 0), (0, .ref 112), (1, .int (nI n0)), (2, .int (nI p0))]) dX11_grave_30 (by decide) rfl ?_
  refine ez_iconst (v := 0) dX11_grave_32 (by decide) ?_
  refine ez_istore (l' := [(7, .int 0), (5, .long 1), (3, .long 0), (0, .ref 112), (1, .int (nI n0)), (2, .int (nI p0))]) dX11_grave_33 (by decide) rfl ?_
  refine ez_sub (l' := [(7, .int 0), (5, .long 1), (3, .long 0), (2, .int (nI p0)), (1, .int (nI n0)), (0, .ref 112)]) [0, 1, 2, 5, 4, 3] rfl ?_
  refine ez_eq (l2 := [(7, .int (nI 0)), (5, .long (lN (10 ^ 0))), (3, .long (lN 0)), (2, .int (nI p0)), (1, .int (nI n0)), (0, .ref 112)]) (σ2 := (n, sl, kd, I1, L, Rf)) rfl rfl rfl rfl ?_
  refine ez_for n0 (fun k (_ : Unit) => ([(7, .int (nI k)), (5, .long (lN (10 ^ k))), (3, .long (lN 0)), (2, .int (nI p0)), (1, .int (nI n0)), (0, .ref 112)], (n, sl, kd, I1, L, Rf))) (fun _ _ => True) ?_ ?_ n0 0 () (by omega) trivial
  · rintro k _ hk _ ih
    show ez_P _ _ _ _ _ _ 35 [(7, .int (nI k)), (5, .long (lN (10 ^ k))), (3, .long (lN 0)), (2, .int (nI p0)), (1, .int (nI n0)), (0, .ref 112)] [] (n, sl, kd, I1, L, Rf) _
    refine ez_iload (i := 7) dX11_grave_35 rfl ?_
    refine ez_iload_n (i := 1) dX11_grave_37 rfl rfl ?_
    refine ez_icmp_ge (tgt := 55) dX11_grave_38 (by decide) (fun c5 => absurd c5 (nI_ge hk (by omega))) (fun c5 => ?_)
    refine ez_lload (i := 5) dX11_grave_41 rfl ?_
    refine ez_ldc2 (v := 10) dX11_grave_43 kcX11_359 ?_
    refine ez_lmul dX11_grave_46 ?_
    refine ez_lstore (l' := [(5, .long ((lN (10 ^ k)) * 10)), (7, .int (nI k)), (3, .long (lN 0)), (2, .int (nI p0)), (1, .int (nI n0)), (0, .ref 112)]) dX11_grave_47 (by decide) rfl ?_
    refine ez_iinc (v := (nI (k + 1))) (l' := [(7, .int ((nI (k + 1)))), (5, .long ((lN (10 ^ k)) * 10)), (3, .long (lN 0)), (2, .int (nI p0)), (1, .int (nI n0)), (0, .ref 112)]) dX11_grave_49 rfl (nI_1 _) (by decide) rfl ?_
    refine ez_goto (tgt := 35) dX11_grave_52 (by decide) ?_
    exact ez_eq (l2 := [(7, .int (nI (k + 1))), (5, .long (lN (10 ^ (k + 1)))), (3, .long (lN 0)), (2, .int (nI p0)), (1, .int (nI n0)), (0, .ref 112)]) rfl (by rw [show (10 : Int64) = lN 10 from rfl, lN_mul, ← Nat.pow_succ]) rfl rfl (ih () trivial)
  · rintro _ _
    show ez_P _ _ _ _ _ _ 35 [(7, .int (nI n0)), (5, .long (lN (10 ^ n0))), (3, .long (lN 0)), (2, .int (nI p0)), (1, .int (nI n0)), (0, .ref 112)] [] (n, sl, kd, I1, L, Rf) _
    refine ez_iload (i := 7) dX11_grave_35 rfl ?_
    refine ez_iload_n (i := 1) dX11_grave_37 rfl rfl ?_
    refine ez_icmp_ge (tgt := 55) dX11_grave_38 (by decide) (fun c6 => ?_) (fun c6 => absurd (nI_le (Nat.le_refl _) (by omega)) c6)
    refine ez_iconst (v := 0) dX11_grave_55 (by decide) ?_
    refine ez_istore (l' := [(7, .int 0), (5, .long (lN (10 ^ n0))), (3, .long (lN 0)), (2, .int (nI p0)), (1, .int (nI n0)), (0, .ref 112)]) dX11_grave_56 (by decide) rfl ?_
    refine ez_eq (l2 := [(7, .int (nI 0)), (5, .long (lN (10 ^ n0))), (3, .long (lN (zgU T p0 n0 0))), (2, .int (nI p0)), (1, .int (nI n0)), (0, .ref 112)]) (σ2 := (n, sl, kd, I1, L, Rf)) rfl rfl rfl rfl ?_
    refine ez_for (2 ^ n0) (fun s0 (a : (Nat → Nat → Int32) × (Nat → Int32) × Int32) => ([(7, .int (nI s0)), (5, .long (lN (10 ^ n0))), (3, .long (lN (zgU T p0 n0 s0))), (2, .int (nI p0)), (1, .int (nI n0)), (0, .ref 112)], (n, sl, kd, a.1, L, Rf))) (fun _ a => zQ n kd I L Rf I a.1 L T a.2.1 a.2.2) ?_ ?_ (2 ^ n0) 0 (I1, I 124, I 112 25) (Nat.add_zero _) hQ2
    · rintro s0 ⟨Ia, xa, oa⟩ hs0 hQa ih
      replace hQa : zQ n kd I L Rf I Ia L T xa oa := hQa
      show ez_P _ _ _ _ _ _ 58 [(7, .int (nI s0)), (5, .long (lN (10 ^ n0))), (3, .long (lN (zgU T p0 n0 s0))), (2, .int (nI p0)), (1, .int (nI n0)), (0, .ref 112)] [] (n, sl, kd, Ia, L, Rf) _
      refine ez_iload (i := 7) dX11_grave_58 rfl ?_
      refine ez_iconst (v := 1) dX11_grave_60 (by decide) ?_
      refine ez_iload_n (i := 1) dX11_grave_61 rfl rfl ?_
      refine ez_ishl dX11_grave_62 ?_
      refine ez_topE (y := nI (2 ^ n0)) (zg_shl n0 hn) ?_
      refine ez_icmp_ge (tgt := 173) dX11_grave_63 (by decide) (fun c7 => absurd c7 (nI_ge hs0 (by omega))) (fun c7 => ?_)
      refine ez_lconst (v := 1) dX11_grave_66 (by decide) ?_
      refine ez_lstore (l' := [(8, .long 1), (7, .int (nI s0)), (5, .long (lN (10 ^ n0))), (3, .long (lN (zgU T p0 n0 s0))), (2, .int (nI p0)), (1, .int (nI n0)), (0, .ref 112)]) dX11_grave_67 (by decide) rfl ?_
      refine ez_aload_n (i := 0) dX11_grave_69 rfl rfl ?_
      refine ez_getR dX11_grave_70 flX11_9 (hF.lt (by decide)) (hF.kc (by decide) rfl) (hF.pt 107 rfl) ?_
      refine ez_aload_n (i := 0) dX11_grave_73 rfl rfl ?_
      refine ez_getR dX11_grave_74 flX11_49 (hF.lt (by decide)) (hF.kc (by decide) rfl) (hF.pt 117 rfl) ?_
      refine ez_iconst (v := 0) dX11_grave_77 (by decide) ?_
      refine ez_callS (M1 := mX11_lay) (rest := []) dX11_grave_78 mlX11_231 msX11_lay rfl (Nat.le_of_ble_eq_true rfl) rfl (y_lay0 (I := Ia) (L := L) (d + 399) hF) (eb_vok rfl) ?_
      rintro _ _ ⟨rfl, rfl⟩
      refine ez_nmI (fun I8 hI8 => ?_)
      show ez_P _ _ _ _ _ _ 81 [(8, .long 1), (7, .int (nI s0)), (5, .long (lN (10 ^ n0))), (3, .long (lN (zgU T p0 n0 s0))), (2, .int (nI p0)), (1, .int (nI n0)), (0, .ref 112)] [] (n, sl, kd, I8, L, Rf) _
      have hQ9 : zQ n kd I L Rf I I8 L T T.x oa := by rw [hI8]; exact hQa.lay
      refine ez_aload_n (i := 0) dX11_grave_81 rfl rfl ?_
      refine ez_iconst (v := 0) dX11_grave_82 (by decide) ?_
      refine ez_pI dX11_grave_83 plX11_235 (hF.lt (by decide)) (hF.lx (by decide)) (hF.kc (by decide) rfl) rfl rfl ?_
      refine ez_nmI (fun I10 hI10 => ?_)
      have hQ11 : zQ n kd I L Rf I I10 L T T.x 0 := by rw [hI10]; exact hQ9.ov
      refine ez_iconst (v := 0) dX11_grave_86 (by decide) ?_
      refine ez_istore (l' := [(10, .int 0), (8, .long 1), (7, .int (nI s0)), (5, .long (lN (10 ^ n0))), (3, .long (lN (zgU T p0 n0 s0))), (2, .int (nI p0)), (1, .int (nI n0)), (0, .ref 112)]) dX11_grave_87 (by decide) rfl ?_
      refine ez_eq (l2 := [(10, .int (nI 0)), (8, .long (lN (zgt p0 s0 0))), (7, .int (nI s0)), (5, .long (lN (10 ^ n0))), (3, .long (lN (zgU T p0 n0 s0))), (2, .int (nI p0)), (1, .int (nI n0)), (0, .ref 112)]) (σ2 := (n, sl, kd, I10, L, Rf)) rfl rfl rfl rfl ?_
      have hQi : zQ n kd I L Rf I I10 L T (zgx T s0 0) (nI (zgn T s0 0)) := by rw [show nI (zgn T s0 0) = 0 from nI_0]; exact hQ11
      refine ez_for n0 (fun k (a : Nat → Nat → Int32) => ([(10, .int (nI k)), (8, .long (lN (zgt p0 s0 k))), (7, .int (nI s0)), (5, .long (lN (10 ^ n0))), (3, .long (lN (zgU T p0 n0 s0))), (2, .int (nI p0)), (1, .int (nI n0)), (0, .ref 112)], (n, sl, kd, a, L, Rf))) (fun k a => zQ n kd I L Rf I a L T (zgx T s0 k) (nI (zgn T s0 k))) ?_ ?_ n0 0 I10 (by omega) hQi
      · rintro k Ib hk hQb ihk
        replace hQb : zQ n kd I L Rf I Ib L T (zgx T s0 k) (nI (zgn T s0 k)) := hQb
        show ez_P _ _ _ _ _ _ 89 [(10, .int (nI k)), (8, .long (lN (zgt p0 s0 k))), (7, .int (nI s0)), (5, .long (lN (10 ^ n0))), (3, .long (lN (zgU T p0 n0 s0))), (2, .int (nI p0)), (1, .int (nI n0)), (0, .ref 112)] [] (n, sl, kd, Ib, L, Rf) _
        refine ez_iload (i := 10) dX11_grave_89 rfl ?_
        refine ez_iload_n (i := 1) dX11_grave_91 rfl rfl ?_
        refine ez_icmp_ge (tgt := 151) dX11_grave_92 (by decide) (fun c12 => absurd c12 (nI_ge hk (by omega))) (fun c12 => ?_)
        refine ez_lload (i := 8) dX11_grave_95 rfl ?_
        refine ez_iload (i := 7) dX11_grave_97 rfl ?_
        refine ez_iload (i := 10) dX11_grave_99 rfl ?_
        refine ez_callS (M1 := mX11_has) (rest := [.long (lN (zgt p0 s0 k))]) dX11_grave_101 mlX11_306 msX11_has rfl (Nat.le_of_ble_eq_true rfl) rfl (zq_b (q_X11_has (d + 399) (nI s0) (nI k)) (n, sl, kd, Ib, L, Rf)) eb_bok ?_
        rintro _ _ ⟨rfl, ⟨hbt, rfl⟩ | ⟨hbt, rfl⟩⟩
        · have hb2 : s0.testBit k = true := (zg_bit s0 (by omega) k (by omega)).mp hbt
          show ez_P _ _ _ _ _ _ 104 [(10, .int (nI k)), (8, .long (lN (zgt p0 s0 k))), (7, .int (nI s0)), (5, .long (lN (10 ^ n0))), (3, .long (lN (zgU T p0 n0 s0))), (2, .int (nI p0)), (1, .int (nI n0)), (0, .ref 112)] (.int 1 :: [.long (lN (zgt p0 s0 k))]) (n, sl, kd, Ib, L, Rf) _
          refine ez_if_eq (tgt := 112) dX11_grave_104 (by decide) (fun c13 => absurd c13 (by decide)) (fun c13 => ?_)
          refine ez_iload_n (i := 2) dX11_grave_107 rfl rfl ?_
          refine ez_i2l dX11_grave_108 rfl ?_
          refine ez_goto (tgt := 117) dX11_grave_109 (by decide) ?_
          refine ez_lmul dX11_grave_117 ?_
          refine ez_lstore (l' := [(8, .long ((lN (zgt p0 s0 k)) * ((nI p0).toInt64))), (10, .int (nI k)), (7, .int (nI s0)), (5, .long (lN (10 ^ n0))), (3, .long (lN (zgU T p0 n0 s0))), (2, .int (nI p0)), (1, .int (nI n0)), (0, .ref 112)]) dX11_grave_118 (by decide) rfl ?_
          refine ez_aload_n (i := 0) dX11_grave_120 rfl rfl ?_
          refine ez_aload_n (i := 0) dX11_grave_121 rfl rfl ?_
          refine ez_getR dX11_grave_122 flX11_49 (hF.lt (by decide)) (hF.kc (by decide) rfl) (hF.pt 117 rfl) ?_
          refine ez_iload (i := 7) dX11_grave_125 rfl ?_
          refine ez_iload (i := 10) dX11_grave_127 rfl ?_
          refine ez_callS (M1 := mX11_has) (rest := [.ref 124, .ref 112]) dX11_grave_129 mlX11_306 msX11_has rfl (Nat.le_of_ble_eq_true rfl) rfl (zq_b1 hbt (zq_b (q_X11_has (d + 399) (nI s0) (nI k)) (n, sl, kd, Ib, L, Rf))) eb_rok ?_
          rintro _ _ ⟨rfl, rfl⟩
          show ez_P _ _ _ _ _ _ 132 [(8, .long ((lN (zgt p0 s0 k)) * ((nI p0).toInt64))), (10, .int (nI k)), (7, .int (nI s0)), (5, .long (lN (10 ^ n0))), (3, .long (lN (zgU T p0 n0 s0))), (2, .int (nI p0)), (1, .int (nI n0)), (0, .ref 112)] (.int 1 :: [.ref 124, .ref 112]) _ _
          refine ez_if_eq (tgt := 140) dX11_grave_132 (by decide) (fun c14 => absurd c14 (by decide)) (fun c14 => ?_)
          refine ez_bipush (v := 9) dX11_grave_135 (by decide) ?_
          refine ez_goto (tgt := 142) dX11_grave_137 (by decide) ?_
          refine ez_callV (M1 := mX11_goHourBy) (rest := []) dX11_grave_142 mlX11_238 mvX11_goHourBy rfl (hF.lt (by decide)) (hF.kc (by decide) rfl) (Nat.le_of_ble_eq_true rfl) rfl (y_X11_goHourBy (I := Ib) (L := L) (d + 90) hQb.M.W hc7 (Or.inr rfl) hQb.x (zgx_xr hO k) (by omega) (wd := 9) (zgw_y hb2 ▸ zgw_wr)) zpH_ok ?_
          rintro _ _ ⟨rfl, I15, rfl, hq16⟩
          show ez_P _ _ _ _ _ _ 145 [(8, .long ((lN (zgt p0 s0 k)) * ((nI p0).toInt64))), (10, .int (nI k)), (7, .int (nI s0)), (5, .long (lN (10 ^ n0))), (3, .long (lN (zgU T p0 n0 s0))), (2, .int (nI p0)), (1, .int (nI n0)), (0, .ref 112)] [] (n, sl, kd, I15, L, Rf) _
          rw [hQb.o] at hq16
          have hQ17 : zQ n kd I L Rf I I15 L T (zh1 T 9 (zgx T s0 k)) ((nI (zgn T s0 k)) + zho T 9 (zgx T s0 k)) := by exact hQb.hp hq16
          refine ez_iinc (v := (nI (k + 1))) (l' := [(10, .int ((nI (k + 1)))), (8, .long ((lN (zgt p0 s0 k)) * ((nI p0).toInt64))), (7, .int (nI s0)), (5, .long (lN (10 ^ n0))), (3, .long (lN (zgU T p0 n0 s0))), (2, .int (nI p0)), (1, .int (nI n0)), (0, .ref 112)]) dX11_grave_145 rfl (nI_1 _) (by decide) rfl ?_
          refine ez_goto (tgt := 89) dX11_grave_148 (by decide) ?_
          have hQn : zQ n kd I L Rf I I15 L T (zgx T s0 (k + 1)) (nI (zgn T s0 (k + 1))) := by rw [← zgn_s (T := T) (zgw_y hb2), zgx, zgw_y hb2]; exact hQ17
          exact ez_eq (l2 := [(10, .int (nI (k + 1))), (8, .long (lN (zgt p0 s0 (k + 1)))), (7, .int (nI s0)), (5, .long (lN (10 ^ n0))), (3, .long (lN (zgU T p0 n0 s0))), (2, .int (nI p0)), (1, .int (nI n0)), (0, .ref 112)]) rfl (by rw [zgt_y hp hb2]) rfl rfl (ihk I15 hQn)
        · have hb2 : ¬ s0.testBit k = true := fun g => hbt ((zg_bit s0 (by omega) k (by omega)).mpr g)
          show ez_P _ _ _ _ _ _ 104 [(10, .int (nI k)), (8, .long (lN (zgt p0 s0 k))), (7, .int (nI s0)), (5, .long (lN (10 ^ n0))), (3, .long (lN (zgU T p0 n0 s0))), (2, .int (nI p0)), (1, .int (nI n0)), (0, .ref 112)] (.int 0 :: [.long (lN (zgt p0 s0 k))]) (n, sl, kd, Ib, L, Rf) _
          refine ez_if_eq (tgt := 112) dX11_grave_104 (by decide) (fun c18 => ?_) (fun c18 => absurd (by decide) c18)
          refine ez_bipush (v := 10) dX11_grave_112 (by decide) ?_
          refine ez_iload_n (i := 2) dX11_grave_114 rfl rfl ?_
          refine ez_isub dX11_grave_115 ?_
          refine ez_i2l dX11_grave_116 rfl ?_
          refine ez_lmul dX11_grave_117 ?_
          refine ez_lstore (l' := [(8, .long ((lN (zgt p0 s0 k)) * ((10 - (nI p0)).toInt64))), (10, .int (nI k)), (7, .int (nI s0)), (5, .long (lN (10 ^ n0))), (3, .long (lN (zgU T p0 n0 s0))), (2, .int (nI p0)), (1, .int (nI n0)), (0, .ref 112)]) dX11_grave_118 (by decide) rfl ?_
          refine ez_aload_n (i := 0) dX11_grave_120 rfl rfl ?_
          refine ez_aload_n (i := 0) dX11_grave_121 rfl rfl ?_
          refine ez_getR dX11_grave_122 flX11_49 (hF.lt (by decide)) (hF.kc (by decide) rfl) (hF.pt 117 rfl) ?_
          refine ez_iload (i := 7) dX11_grave_125 rfl ?_
          refine ez_iload (i := 10) dX11_grave_127 rfl ?_
          refine ez_callS (M1 := mX11_has) (rest := [.ref 124, .ref 112]) dX11_grave_129 mlX11_306 msX11_has rfl (Nat.le_of_ble_eq_true rfl) rfl (zq_b0 hbt (zq_b (q_X11_has (d + 399) (nI s0) (nI k)) (n, sl, kd, Ib, L, Rf))) eb_rok ?_
          rintro _ _ ⟨rfl, rfl⟩
          show ez_P _ _ _ _ _ _ 132 [(8, .long ((lN (zgt p0 s0 k)) * ((10 - (nI p0)).toInt64))), (10, .int (nI k)), (7, .int (nI s0)), (5, .long (lN (10 ^ n0))), (3, .long (lN (zgU T p0 n0 s0))), (2, .int (nI p0)), (1, .int (nI n0)), (0, .ref 112)] (.int 0 :: [.ref 124, .ref 112]) _ _
          refine ez_if_eq (tgt := 140) dX11_grave_132 (by decide) (fun c19 => ?_) (fun c19 => absurd (by decide) c19)
          refine ez_bipush (v := (-9)) dX11_grave_140 (by decide) ?_
          refine ez_callV (M1 := mX11_goHourBy) (rest := []) dX11_grave_142 mlX11_238 mvX11_goHourBy rfl (hF.lt (by decide)) (hF.kc (by decide) rfl) (Nat.le_of_ble_eq_true rfl) rfl (y_X11_goHourBy (I := Ib) (L := L) (d + 90) hQb.M.W hc7 (Or.inr rfl) hQb.x (zgx_xr hO k) (by omega) (wd := (-9)) (zgw_n hb2 ▸ zgw_wr)) zpH_ok ?_
          rintro _ _ ⟨rfl, I20, rfl, hq21⟩
          show ez_P _ _ _ _ _ _ 145 [(8, .long ((lN (zgt p0 s0 k)) * ((10 - (nI p0)).toInt64))), (10, .int (nI k)), (7, .int (nI s0)), (5, .long (lN (10 ^ n0))), (3, .long (lN (zgU T p0 n0 s0))), (2, .int (nI p0)), (1, .int (nI n0)), (0, .ref 112)] [] (n, sl, kd, I20, L, Rf) _
          rw [hQb.o] at hq21
          have hQ22 : zQ n kd I L Rf I I20 L T (zh1 T (-9) (zgx T s0 k)) ((nI (zgn T s0 k)) + zho T (-9) (zgx T s0 k)) := by exact hQb.hp hq21
          refine ez_iinc (v := (nI (k + 1))) (l' := [(10, .int ((nI (k + 1)))), (8, .long ((lN (zgt p0 s0 k)) * ((10 - (nI p0)).toInt64))), (7, .int (nI s0)), (5, .long (lN (10 ^ n0))), (3, .long (lN (zgU T p0 n0 s0))), (2, .int (nI p0)), (1, .int (nI n0)), (0, .ref 112)]) dX11_grave_145 rfl (nI_1 _) (by decide) rfl ?_
          refine ez_goto (tgt := 89) dX11_grave_148 (by decide) ?_
          have hQn : zQ n kd I L Rf I I20 L T (zgx T s0 (k + 1)) (nI (zgn T s0 (k + 1))) := by rw [← zgn_s (T := T) (zgw_n hb2), zgx, zgw_n hb2]; exact hQ22
          exact ez_eq (l2 := [(10, .int (nI (k + 1))), (8, .long (lN (zgt p0 s0 (k + 1)))), (7, .int (nI s0)), (5, .long (lN (10 ^ n0))), (3, .long (lN (zgU T p0 n0 s0))), (2, .int (nI p0)), (1, .int (nI n0)), (0, .ref 112)]) rfl (by rw [zgt_n hp hb2]) rfl rfl (ihk I20 hQn)
      · rintro Ib hQb
        replace hQb : zQ n kd I L Rf I Ib L T (zgx T s0 n0) (nI (zgn T s0 n0)) := hQb
        show ez_P _ _ _ _ _ _ 89 [(10, .int (nI n0)), (8, .long (lN (zgt p0 s0 n0))), (7, .int (nI s0)), (5, .long (lN (10 ^ n0))), (3, .long (lN (zgU T p0 n0 s0))), (2, .int (nI p0)), (1, .int (nI n0)), (0, .ref 112)] [] (n, sl, kd, Ib, L, Rf) _
        refine ez_iload (i := 10) dX11_grave_89 rfl ?_
        refine ez_iload_n (i := 1) dX11_grave_91 rfl rfl ?_
        refine ez_icmp_ge (tgt := 151) dX11_grave_92 (by decide) (fun c23 => ?_) (fun c23 => absurd (nI_le (Nat.le_refl _) (by omega)) c23)
        refine ez_lload_n (i := 3) dX11_grave_151 rfl rfl ?_
        refine ez_aload_n (i := 0) dX11_grave_152 rfl rfl ?_
        refine ez_getI dX11_grave_153 flX11_235 (hF.lt (by decide)) (hF.kc (by decide) rfl) ?_
        refine ez_topE (y := (nI (zgn T s0 n0))) hQb.o ?_
        refine ez_if_le (tgt := 164) dX11_grave_156 (by decide) (fun c24 => ?_) (fun c24 => ?_)
        · skip
          refine ez_lconst (v := 0) dX11_grave_164 (by decide) ?_
          refine ez_ladd dX11_grave_165 ?_
          refine ez_lstore_n (l' := [(3, .long ((lN (zgU T p0 n0 s0)) + 0)), (10, .int (nI n0)), (8, .long (lN (zgt p0 s0 n0))), (7, .int (nI s0)), (5, .long (lN (10 ^ n0))), (2, .int (nI p0)), (1, .int (nI n0)), (0, .ref 112)]) dX11_grave_166 rfl (by decide) rfl ?_
          refine ez_iinc (v := (nI (s0 + 1))) (l' := [(7, .int ((nI (s0 + 1)))), (3, .long ((lN (zgU T p0 n0 s0)) + 0)), (10, .int (nI n0)), (8, .long (lN (zgt p0 s0 n0))), (5, .long (lN (10 ^ n0))), (2, .int (nI p0)), (1, .int (nI n0)), (0, .ref 112)]) dX11_grave_167 rfl (nI_1 _) (by decide) rfl ?_
          refine ez_goto (tgt := 58) dX11_grave_170 (by decide) ?_
          refine ez_sub (l' := [(7, .int ((nI (s0 + 1)))), (5, .long (lN (10 ^ n0))), (3, .long ((lN (zgU T p0 n0 s0)) + 0)), (2, .int (nI p0)), (1, .int (nI n0)), (0, .ref 112)]) [0, 4, 1, 5, 6, 7] rfl ?_
          exact ez_eq (l2 := [(7, .int (nI (s0 + 1))), (5, .long (lN (10 ^ n0))), (3, .long (lN (zgU T p0 n0 (s0 + 1)))), (2, .int (nI p0)), (1, .int (nI n0)), (0, .ref 112)]) rfl (by rw [zgU_0 (Nat.le_zero.mp (nI_leN c24 (by have := zgn_le (T := T) (s := s0) n0; omega)))]) rfl rfl (ih (Ib, (zgx T s0 n0), (nI (zgn T s0 n0))) hQb)
        · skip
          refine ez_lload (i := 8) dX11_grave_159 rfl ?_
          refine ez_goto (tgt := 165) dX11_grave_161 (by decide) ?_
          refine ez_ladd dX11_grave_165 ?_
          refine ez_lstore_n (l' := [(3, .long ((lN (zgU T p0 n0 s0)) + (lN (zgt p0 s0 n0)))), (10, .int (nI n0)), (8, .long (lN (zgt p0 s0 n0))), (7, .int (nI s0)), (5, .long (lN (10 ^ n0))), (2, .int (nI p0)), (1, .int (nI n0)), (0, .ref 112)]) dX11_grave_166 rfl (by decide) rfl ?_
          refine ez_iinc (v := (nI (s0 + 1))) (l' := [(7, .int ((nI (s0 + 1)))), (3, .long ((lN (zgU T p0 n0 s0)) + (lN (zgt p0 s0 n0)))), (10, .int (nI n0)), (8, .long (lN (zgt p0 s0 n0))), (5, .long (lN (10 ^ n0))), (2, .int (nI p0)), (1, .int (nI n0)), (0, .ref 112)]) dX11_grave_167 rfl (nI_1 _) (by decide) rfl ?_
          refine ez_goto (tgt := 58) dX11_grave_170 (by decide) ?_
          refine ez_sub (l' := [(7, .int ((nI (s0 + 1)))), (5, .long (lN (10 ^ n0))), (3, .long ((lN (zgU T p0 n0 s0)) + (lN (zgt p0 s0 n0)))), (2, .int (nI p0)), (1, .int (nI n0)), (0, .ref 112)]) [0, 4, 1, 5, 6, 7] rfl ?_
          exact ez_eq (l2 := [(7, .int (nI (s0 + 1))), (5, .long (lN (10 ^ n0))), (3, .long (lN (zgU T p0 n0 (s0 + 1)))), (2, .int (nI p0)), (1, .int (nI n0)), (0, .ref 112)]) rfl (by rw [zgU_1 (fun e => c24 (by rw [e]; decide))]) rfl rfl (ih (Ib, (zgx T s0 n0), (nI (zgn T s0 n0))) hQb)
    · rintro ⟨Ia, xa, oa⟩ hQa
      replace hQa : zQ n kd I L Rf I Ia L T xa oa := hQa
      show ez_P _ _ _ _ _ _ 58 [(7, .int (nI (2 ^ n0))), (5, .long (lN (10 ^ n0))), (3, .long (lN (zgU T p0 n0 (2 ^ n0)))), (2, .int (nI p0)), (1, .int (nI n0)), (0, .ref 112)] [] (n, sl, kd, Ia, L, Rf) _
      refine ez_iload (i := 7) dX11_grave_58 rfl ?_
      refine ez_iconst (v := 1) dX11_grave_60 (by decide) ?_
      refine ez_iload_n (i := 1) dX11_grave_61 rfl rfl ?_
      refine ez_ishl dX11_grave_62 ?_
      refine ez_topE (y := nI (2 ^ n0)) (zg_shl n0 hn) ?_
      refine ez_icmp_ge (tgt := 173) dX11_grave_63 (by decide) (fun c25 => ?_) (fun c25 => absurd (nI_le (Nat.le_refl _) (by omega)) c25)
      refine ez_lload_n (i := 3) dX11_grave_173 rfl rfl ?_
      refine ez_lload (i := 5) dX11_grave_174 rfl ?_
      refine ez_callS (M1 := mX11_common) (rest := []) dX11_grave_176 mlX11_355 msX11_common rfl (Nat.le_of_ble_eq_true rfl) rfl (zq_rl (σ := (n, sl, kd, Ia, L, Rf)) (fun I7 R7 => q_common (I := I7) (Rf := R7) 27 (d + 345) (zgu T p0 n0) (10 ^ n0) (by omega) (by omega) (by omega))) eb_rlok ?_
      rintro _ _ ⟨rfl, rfl⟩
      show ez_P _ _ _ _ _ _ 179 [(7, .int (nI (2 ^ n0))), (5, .long (lN (10 ^ n0))), (3, .long (lN (zgU T p0 n0 (2 ^ n0)))), (2, .int (nI p0)), (1, .int (nI n0)), (0, .ref 112)] (.long (lN (Nat.gcd (zgu T p0 n0) (10 ^ n0))) :: []) (n, sl, kd, Ia, L, Rf) _
      refine ez_lstore (l' := [(7, .long (lN (Nat.gcd (zgu T p0 n0) (10 ^ n0)))), (5, .long (lN (10 ^ n0))), (3, .long (lN (zgU T p0 n0 (2 ^ n0)))), (2, .int (nI p0)), (1, .int (nI n0)), (0, .ref 112)]) dX11_grave_179 (by decide) rfl ?_
      refine ez_aload_n (i := 0) dX11_grave_181 rfl rfl ?_
      refine ez_iconst (v := 0) dX11_grave_182 (by decide) ?_
      refine ez_pI dX11_grave_183 plX11_92 (hF.lt (by decide)) (hF.lx (by decide)) (hF.kc (by decide) rfl) rfl rfl ?_
      refine ez_nmI (fun I26 hI26 => ?_)
      have hQ27 : zQ n kd I L Rf I I26 L (T.w_rw []) xa oa := by rw [hI26]; exact hQa.row0
      refine ez_aload_n (i := 0) dX11_grave_186 rfl rfl ?_
      refine ez_lload_n (i := 3) dX11_grave_187 rfl rfl ?_
      refine ez_lload (i := 7) dX11_grave_188 rfl ?_
      refine ez_ldiv dX11_grave_190 hg0 ?_
      refine ez_callV (M1 := mX11_tell) (rest := []) dX11_grave_191 mlX11_252 mvX11_tell rfl (hF.lt (by decide)) (hF.kc (by decide) rfl) (Nat.le_of_ble_eq_true rfl) rfl (y_X11_tell (I := I26) (L := L) (d + 399) hF (k := 0) hQ27.M.rw.1 (by decide) ((lN (zgU T p0 n0 (2 ^ n0))) / (lN (Nat.gcd (zgu T p0 n0) (10 ^ n0))))) (eb_vok rfl) ?_
      rintro _ _ ⟨rfl, rfl⟩
      refine ez_nmI (fun I28 hI28 => ?_)
      refine ez_nmL (fun L29 hL29 => ?_)
      show ez_P _ _ _ _ _ _ 194 [(7, .long (lN (Nat.gcd (zgu T p0 n0) (10 ^ n0)))), (5, .long (lN (10 ^ n0))), (3, .long (lN (zgU T p0 n0 (2 ^ n0)))), (2, .int (nI p0)), (1, .int (nI n0)), (0, .ref 112)] [] (n, sl, kd, I28, L29, Rf) _
      have hQ30 : zQ n kd I L Rf I I28 L29 (T.w_rw [(lN (zgU T p0 n0 (2 ^ n0))) / (lN (Nat.gcd (zgu T p0 n0) (10 ^ n0)))]) xa oa := by rw [hI28, hL29]; exact hQ27.tell ((lN (zgU T p0 n0 (2 ^ n0))) / (lN (Nat.gcd (zgu T p0 n0) (10 ^ n0))))
      refine ez_aload_n (i := 0) dX11_grave_194 rfl rfl ?_
      refine ez_lload (i := 5) dX11_grave_195 rfl ?_
      refine ez_lload (i := 7) dX11_grave_197 rfl ?_
      refine ez_ldiv dX11_grave_199 hg0 ?_
      refine ez_callV (M1 := mX11_tell) (rest := []) dX11_grave_200 mlX11_252 mvX11_tell rfl (hF.lt (by decide)) (hF.kc (by decide) rfl) (Nat.le_of_ble_eq_true rfl) rfl (y_X11_tell (I := I28) (L := L29) (d + 399) hF (k := 1) hQ30.M.rw.1 (by decide) ((lN (10 ^ n0)) / (lN (Nat.gcd (zgu T p0 n0) (10 ^ n0))))) (eb_vok rfl) ?_
      rintro _ _ ⟨rfl, rfl⟩
      refine ez_nmI (fun I31 hI31 => ?_)
      refine ez_nmL (fun L32 hL32 => ?_)
      show ez_P _ _ _ _ _ _ 203 [(7, .long (lN (Nat.gcd (zgu T p0 n0) (10 ^ n0)))), (5, .long (lN (10 ^ n0))), (3, .long (lN (zgU T p0 n0 (2 ^ n0)))), (2, .int (nI p0)), (1, .int (nI n0)), (0, .ref 112)] [] (n, sl, kd, I31, L32, Rf) _
      have hQ33 : zQ n kd I L Rf I I31 L32 (T.w_rw [(lN (zgU T p0 n0 (2 ^ n0))) / (lN (Nat.gcd (zgu T p0 n0) (10 ^ n0))), (lN (10 ^ n0)) / (lN (Nat.gcd (zgu T p0 n0) (10 ^ n0)))]) xa oa := by rw [hI31, hL32]; exact hQ30.tell ((lN (10 ^ n0)) / (lN (Nat.gcd (zgu T p0 n0) (10 ^ n0))))
      refine ez_iconst (v := 0) dX11_grave_203 (by decide) ?_
      refine ez_iret dX11_grave_204 rfl rfl ?_
      rw [show s_graveok T n0 p0 = (0, T.w_rw [(lN (zgU T p0 n0 (2 ^ n0))) / (lN (Nat.gcd (zgu T p0 n0) (10 ^ n0))), (lN (10 ^ n0)) / (lN (Nat.gcd (zgu T p0 n0) (10 ^ n0)))]) from by unfold s_graveok; rw [show zgU T p0 n0 (2 ^ n0) = zgu T p0 n0 from rfl, pk_lDiv (by omega) hgp (by omega), pk_lDiv (by omega) hgp (by omega)]]
      exact hQ33.end
theorem y_X11_grave_no1 {n : Nat} {sl : Nat × Nat} {kd : Nat → Nat × Nat} {I : Nat → Nat → Int32} {L : Nat → Nat → Int64} {Rf : Nat → Nat → Option Nat} (d : Nat) {T : zT} {H : Nat} (hM : zM n kd I L Rf T) (hO : zOk H T) (hH : H ≤ 1000000000) {v u : Int32} (hn : ¬ (0 ≤ v ∧ v ≤ 8)) : zq mX11_grave (d + 400) [.ref 112, .int v, .int u] (n, sl, kd, I, L, Rf) (zpM n sl kd I L Rf (some (.int (s_grave T v u).1)) (s_grave T v u).2) := by
  have hF := hM.F; have hc7 := hO.c
  have hsp : s_grave T v u = ((-1), T) := by unfold s_grave; rw [if_neg (fun g => hn g.1)]
  rw [hsp]
  intro f B
  refine ez_meth pn_X.2.2.2.2.2.2.2.2.2.2.2 (Nat.le_of_ble_eq_true rfl) ?_
  show ez_P _ _ _ _ _ _ 0 [(0, .ref 112), (1, .int v), (2, .int u)] [] (n, sl, kd, I, L, Rf) _
  refine ez_aload_n (i := 0) dX11_grave_0 rfl rfl ?_
  refine ez_iconst (v := 0) dX11_grave_1 (by decide) ?_
  refine ez_pI dX11_grave_2 plX11_89 (hF.lt (by decide)) (hF.lx (by decide)) (hF.kc (by decide) rfl) rfl rfl ?_
  refine ez_nmI (fun I1 hI1 => ?_)
  have hQ2 : zQ n kd I L Rf I I1 L T (I 124) (I 112 25) := by rw [hI1]; exact zQ.start hM
  refine ez_iload_n (i := 1) dX11_grave_5 rfl rfl ?_
  refine ez_iconst (v := 0) dX11_grave_6 (by decide) ?_
  refine ez_bipush (v := 8) dX11_grave_7 (by decide) ?_
  refine ez_callS (M1 := mX11_in) (rest := []) dX11_grave_9 mlX11_98 msX11_in rfl (Nat.le_of_ble_eq_true rfl) rfl (zq_b0 hn (zq_b (q_X11_in (d + 399) v 0 8) (n, sl, kd, I1, L, Rf))) eb_rok ?_
  rintro _ _ ⟨rfl, rfl⟩
  show ez_P _ _ _ _ _ _ 12 [(0, .ref 112), (1, .int v), (2, .int u)] (.int 0 :: []) _ _
  refine ez_if_eq (tgt := 25) dX11_grave_12 (by decide) (fun c3 => ?_) (fun c3 => absurd (by decide) c3)
  refine ez_iconst (v := (-1)) dX11_grave_25 (by decide) ?_
  refine ez_iret dX11_grave_26 rfl rfl ?_
  exact hQ2.end
theorem y_X11_grave_no2 {n : Nat} {sl : Nat × Nat} {kd : Nat → Nat × Nat} {I : Nat → Nat → Int32} {L : Nat → Nat → Int64} {Rf : Nat → Nat → Option Nat} (d : Nat) {T : zT} {H : Nat} (hM : zM n kd I L Rf T) (hO : zOk H T) (hH : H ≤ 1000000000) {v u : Int32} (hv : 0 ≤ v ∧ v ≤ 8) (hn : ¬ (0 ≤ u ∧ u ≤ 10)) : zq mX11_grave (d + 400) [.ref 112, .int v, .int u] (n, sl, kd, I, L, Rf) (zpM n sl kd I L Rf (some (.int (s_grave T v u).1)) (s_grave T v u).2) := by
  have hF := hM.F; have hc7 := hO.c
  have hsp : s_grave T v u = ((-1), T) := by unfold s_grave; rw [if_neg (fun g => hn g.2)]
  rw [hsp]
  intro f B
  refine ez_meth pn_X.2.2.2.2.2.2.2.2.2.2.2 (Nat.le_of_ble_eq_true rfl) ?_
  show ez_P _ _ _ _ _ _ 0 [(0, .ref 112), (1, .int v), (2, .int u)] [] (n, sl, kd, I, L, Rf) _
  refine ez_aload_n (i := 0) dX11_grave_0 rfl rfl ?_
  refine ez_iconst (v := 0) dX11_grave_1 (by decide) ?_
  refine ez_pI dX11_grave_2 plX11_89 (hF.lt (by decide)) (hF.lx (by decide)) (hF.kc (by decide) rfl) rfl rfl ?_
  refine ez_nmI (fun I1 hI1 => ?_)
  have hQ2 : zQ n kd I L Rf I I1 L T (I 124) (I 112 25) := by rw [hI1]; exact zQ.start hM
  refine ez_iload_n (i := 1) dX11_grave_5 rfl rfl ?_
  refine ez_iconst (v := 0) dX11_grave_6 (by decide) ?_
  refine ez_bipush (v := 8) dX11_grave_7 (by decide) ?_
  refine ez_callS (M1 := mX11_in) (rest := []) dX11_grave_9 mlX11_98 msX11_in rfl (Nat.le_of_ble_eq_true rfl) rfl (zq_b1 hv (zq_b (q_X11_in (d + 399) v 0 8) (n, sl, kd, I1, L, Rf))) eb_rok ?_
  rintro _ _ ⟨rfl, rfl⟩
  show ez_P _ _ _ _ _ _ 12 [(0, .ref 112), (1, .int v), (2, .int u)] (.int 1 :: []) _ _
  refine ez_if_eq (tgt := 25) dX11_grave_12 (by decide) (fun c3 => absurd c3 (by decide)) (fun c3 => ?_)
  refine ez_iload_n (i := 2) dX11_grave_15 rfl rfl ?_
  refine ez_iconst (v := 0) dX11_grave_16 (by decide) ?_
  refine ez_bipush (v := 10) dX11_grave_17 (by decide) ?_
  refine ez_callS (M1 := mX11_in) (rest := []) dX11_grave_19 mlX11_98 msX11_in rfl (Nat.le_of_ble_eq_true rfl) rfl (zq_b0 hn (zq_b (q_X11_in (d + 399) u 0 10) (n, sl, kd, I1, L, Rf))) eb_rok ?_
  rintro _ _ ⟨rfl, rfl⟩
  show ez_P _ _ _ _ _ _ 22 [(0, .ref 112), (1, .int v), (2, .int u)] (.int 0 :: []) _ _
  refine ez_if_ne (tgt := 27) dX11_grave_22 (by decide) (fun c4 => absurd c4 (by decide)) (fun c4 => ?_)
  refine ez_iconst (v := (-1)) dX11_grave_25 (by decide) ?_
  refine ez_iret dX11_grave_26 rfl rfl ?_
  exact hQ2.end
theorem y_X11_grave {n : Nat} {sl : Nat × Nat} {kd : Nat → Nat × Nat} {I : Nat → Nat → Int32} {L : Nat → Nat → Int64} {Rf : Nat → Nat → Option Nat} (d : Nat) {T : zT} {H : Nat} (hM : zM n kd I L Rf T) (hO : zOk H T) (hH : H ≤ 1000000000) (v u : Int32) : zq mX11_grave (d + 400) [.ref 112, .int v, .int u] (n, sl, kd, I, L, Rf) (zpM n sl kd I L Rf (some (.int (s_grave T v u).1)) (s_grave T v u).2) := by
  by_cases h1 : 0 ≤ v ∧ v ≤ 8
  · by_cases h2 : 0 ≤ u ∧ u ≤ 10
    · obtain ⟨n0, hn, rfl⟩ := pk_of (c := 9) (by decide) h1.1 (by have := h1.2; rw [Int32.lt_iff_toInt_lt]; rw [Int32.le_iff_toInt_le] at this; exact Int.lt_of_le_of_lt this (by decide))
      obtain ⟨p0, hp, rfl⟩ := pk_of (c := 11) (by decide) h2.1 (by have := h2.2; rw [Int32.lt_iff_toInt_lt]; rw [Int32.le_iff_toInt_le] at this; exact Int.lt_of_le_of_lt this (by decide))
      rw [show s_grave T (nI n0) (nI p0) = s_graveok T n0 p0 from by unfold s_grave; rw [if_pos ⟨h1, h2⟩, nI_clamp (by omega), nI_clamp (by omega)]]
      exact y_X11_grave_ok d hM hO hH (by omega) (by omega)
    · exact y_X11_grave_no2 d hM hO hH h1 h2
  · exact y_X11_grave_no1 d hM hO hH h1
