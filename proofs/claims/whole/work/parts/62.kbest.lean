/-! the class: best, trims, frees, bears, parties, just, moment -/
theorem zup_id {x : Nat → Int32} {k : Nat} : zup x k (x k) = x := by
  funext q; simp only [zup]; split
  · next h => rw [h]
  · rfl
theorem zpl_up {T : zT} {b : Nat} {v : Int32} (hb : b < 7) : z_pull (zst T (zup T.x (14 + b) v)) (zhw T T.x) (T.x 21) = zpl T (zup T.x (14 + b) v) := by
  unfold zpl zhw
  rw [zup_ne (q := 25) (by omega), zup_ne (q := 21) (by omega)]
theorem zpl_rg (T : zT) (x : Nat → Int32) : z_rg (zpl T x) := z_pull_rg _ _ _
theorem z_tr0_k : ∀ k, k < 41 → ¬ (z_ab 21 ≤ z_ab (nI k - 20)) := by decide +kernel
theorem z_tr0 {p : Int32} (hp : z_rg p) : ¬ z_ab 21 ≤ z_ab p := by obtain ⟨k, hk, rfl⟩ := hp; exact z_tr0_k k hk
/-- a weight is from 0 to 20 -/
theorem z_put20_k (v : Int32) : ∃ m, m ≤ 20 ∧ z_put v 0 20 = nI m := by
  unfold z_put
  by_cases h1 : v < 0
  · exact ⟨0, by decide, by rw [if_pos h1]; rfl⟩
  · rw [if_neg h1]
    by_cases h2 : 20 < v
    · exact ⟨20, by decide, by rw [if_pos h2]; rfl⟩
    · rw [if_neg h2]
      obtain ⟨k, _, hk, e⟩ := z_pk1 (lo := 0) (N := 20) (n := v) ⟨Int32.not_lt.mp h1, Int32.not_lt.mp h2⟩ (by decide) (by decide)
      exact ⟨k, hk, e⟩
theorem zwt_n (T : zT) (x : Nat → Int32) (b : Nat) : ∃ m, m ≤ 20 ∧ zwt T x b = nI m := z_put20_k _
theorem zws_n (T : zT) (s : Int32) (k : Nat) : ∃ m, m ≤ 20 * k ∧ zws T s k = nI m := by
  induction k with
  | zero => exact ⟨0, by omega, rfl⟩
  | succ k ih =>
    obtain ⟨m, h1, h2⟩ := ih
    rw [zws, h2]
    split
    · obtain ⟨q, h3, h4⟩ := zwt_n T T.x k
      exact ⟨m + q, by omega, by rw [h4, nI_add]⟩
    · exact ⟨m, by omega, by rw [Int32.add_zero]⟩
theorem zws_0 (T : zT) (k : Nat) : zws T 0 k = 0 := by
  induction k with
  | zero => rfl
  | succ k ih => rw [zws, ih, Int32.zero_shiftRight, if_neg (by decide)]; rfl
theorem zdf_0 {T : zT} (hc : T.c ≤ 7) : zws T (zal T) T.c = zdf T 0 := by
  unfold zdf
  rw [zws_0, show (2 : Int32) * 0 = 0 from by decide, Int32.sub_zero]
  obtain ⟨m, h1, h2⟩ := zws_n T (zal T) T.c
  rw [h2, z_nI_ab m (by omega)]
theorem zsh1_k : ∀ c, c < 8 → (1 : Int32) <<< (nI c &&& 31) = nI (2 ^ c - 1 + 1) := by decide +kernel
theorem zsh1 {T : zT} (hc : T.c ≤ 7) : (1 : Int32) <<< (nI T.c &&& 31) = nI (zN T + 1) := zsh1_k _ (by omega)
theorem z_mx0 (t : Int32) : (if t < 0 then 0 else t) = if 0 < t then t else 0 := by
  by_cases h : t < 0
  · rw [if_pos h, if_neg (Int32.not_lt.mpr (Int32.le_of_lt h))]
  · rw [if_neg h]
    by_cases h2 : 0 < t
    · rw [if_pos h2]
    · rw [if_neg h2]; exact Int32.le_antisymm (Int32.not_lt.mp h2) (Int32.not_lt.mp h)
theorem z_bc8 : ∀ k, k < 128 → ¬ (8 ≤ z_bc (nI k)) ∧ ¬ (nI k = -1) := by decide +kernel
theorem zso_sub {rv : (Nat → Int32) → Int32} {pr : Nat → Int32} {c : Nat} {x : Nat → Int32} {ln hr : Int32} {b : Nat} (hb : b < 8) : ∀ k, k ≤ 7 → zso rv pr c x ln hr (nI b) k = if b < k then zsl rv pr c x ln hr k - zwl rv pr c x ln hr b * x (14 + b) else zsl rv pr c x ln hr k := by
  intro k
  induction k with
  | zero => intro _; rfl
  | succ k ih =>
    intro hk
    rw [zso, ih (by omega), zsl]
    by_cases e : k = b
    · rw [if_neg (show ¬ b < k by omega), if_pos (show nI k = nI b by rw [e]), if_pos (show b < k + 1 by omega), e]; grind
    · have hne : ¬ nI k = nI b := fun g => e (z_nIinj g (by omega) (by omega))
      by_cases h : b < k
      · rw [if_pos h, if_neg hne, if_pos (show b < k + 1 by omega)]; grind
      · rw [if_neg h, if_neg hne, if_neg (show ¬ b < k + 1 by omega)]
theorem zpo_k {T : zT} {k : Nat} (hk : k < T.c) (hc : T.c ≤ 7) : z_pull (zst T T.x - zwt T T.x k * T.x (14 + k)) (zhw T T.x) (T.x 21) = zpo T (nI k) := by
  unfold zpo zsw
  rw [zso_sub (by omega) _ hc, if_pos hk]; rfl
theorem zpo_rg (T : zT) (v : Int32) : z_rg (zpo T v) := z_pull_rg _ _ _
theorem z_tn_k : ∀ m, m ≤ 20 → ∀ p, p < 11 → (if 0 < nI m * (nI p - 5) then nI m * (nI p - 5) else 0) - (if 0 < -(nI m * (nI p - 5)) then -(nI m * (nI p - 5)) else 0) = nI m * (nI p - 5) := by decide +kernel
theorem a_moment_d {T : zT} {H : Nat} (hx : zxr T.c H T.x) : ∀ k, k ≤ T.c → (a_moment T k).1 - (a_moment T k).2 = zsl T.rv T.pr T.c T.x (T.x 22) (T.x 25) k := by
  intro k
  induction k with
  | zero => intro _; show (0 : Int32) - 0 = 0; decide
  | succ k ih =>
    intro hk
    have ih := ih (by omega)
    obtain ⟨m, h1, h2⟩ := zwt_n T T.x k
    obtain ⟨p, h3, h4⟩ := hx.p k (by omega)
    have e := z_tn_k m h1 p h3
    rw [a_moment, b_moment, zsl, ← ih]
    simp only
    rw [show zwl T.rv T.pr T.c T.x (T.x 22) (T.x 25) k = zwt T T.x k from rfl, h2, h4]
    generalize (if 0 < nI m * (nI p - 5) then nI m * (nI p - 5) else 0) = u at e ⊢
    generalize (if 0 < -(nI m * (nI p - 5)) then -(nI m * (nI p - 5)) else 0) = v at e ⊢
    rw [← e]; grind
theorem c_best_ok {n : Nat} {sl : Nat × Nat} {kd : Nat → Nat × Nat} {I : Nat → Nat → Int32} {L : Nat → Nat → Int64} {Rf : Nat → Nat → Option Nat} (d : Nat) {T : zT} {H : Nat} (hC : zC n kd I L Rf T) (hO : zOk H T) (hH : H ≤ 1000000000) {n0 : Nat} (hn1 : 1 ≤ n0) (hn : n0 ≤ 60) (f : Nat) (B : Nat → Int32) : ez_Q (f + 100) B f (fun _ => True) mX10_best (d + 60) [.ref 0, .int (nI n0)] (n, sl, kd, I, L, Rf) (zpC n sl kd I L Rf (some (.int (s_best T (nI n0)).1)) (s_best T (nI n0)).2) := by
  have hF := hC.F; have hc7 := hO.c
  have hK0 : zK n kd I L Rf I I L Rf T none none false := zK.start hC
  refine ez_meth pn_X.2.2.2.2.2.2.2.2.2.2.1 (Nat.le_of_ble_eq_true rfl) ?_
  show ez_P _ _ _ _ _ _ 0 [(0, .ref 0), (1, .int (nI n0))] [] (n, sl, kd, I, L, Rf) _
  refine ez_iload_n (i := 1) dX10_best_0 rfl rfl ?_
  refine ez_iconst (v := 1) dX10_best_1 (by decide) ?_
  refine ez_bipush (v := 60) dX10_best_2 (by decide) ?_
  refine ez_callS (M1 := mX10_within) (rest := []) dX10_best_4 mlX10_158 msX10_within rfl (Nat.le_of_ble_eq_true rfl) rfl (zq_b1 (z_n19 (N := 60) hn1 hn (by decide)) (zq_b (q_X10_within (d + 59) (nI n0) 1 60) (n, sl, kd, I, L, Rf))) eb_rok ?_
  rintro _ _ ⟨rfl, rfl⟩
  show ez_P _ _ _ _ _ _ 7 [(0, .ref 0), (1, .int (nI n0))] (.int 1 :: []) _ _
  refine ez_if_ne (tgt := 12) dX10_best_7 (by decide) (fun c1 => ?_) (fun c1 => absurd (by decide) c1)
  refine ez_iconst (v := (-1)) dX10_best_12 (by decide) ?_
  refine ez_istore_n (l' := [(2, .int ((-1))), (0, .ref 0), (1, .int (nI n0))]) dX10_best_13 rfl (by decide) rfl ?_
  refine ez_iconst (v := 0) dX10_best_14 (by decide) ?_
  refine ez_istore_n (l' := [(3, .int 0), (2, .int ((-1))), (0, .ref 0), (1, .int (nI n0))]) dX10_best_15 rfl (by decide) rfl ?_
  refine ez_iconst (v := 0) dX10_best_16 (by decide) ?_
  refine ez_istore (l' := [(4, .int 0), (3, .int 0), (2, .int ((-1))), (0, .ref 0), (1, .int (nI n0))]) dX10_best_17 (by decide) rfl ?_
  refine ez_aload_n (i := 0) dX10_best_19 rfl rfl ?_
  refine ez_getR dX10_best_20 flX10_26 (hF.lt (by decide)) (hF.kc (by decide) rfl) (hF.pt 4 rfl) ?_
  refine ez_callVm (M1 := mX6_begin) (rest := []) dX10_best_23 mlX10_192 mvX6_begin rfl (hF.lt (by decide)) (hF.kc (by decide) rfl) (Nat.le_of_ble_eq_true rfl) rfl (k_begin (T := T) (I := I) (L := L) (d + 59) hK0.C (f + 99) _ (zBm T T.x)) (eb_vok rfl) ?_
  rintro _ _ _ rfl ⟨rfl, rfl⟩
  show ez_P _ _ _ _ _ _ 26 [(4, .int 0), (3, .int 0), (2, .int ((-1))), (0, .ref 0), (1, .int (nI n0))] [] (n, sl, kd, I, L, Rf) _
  refine ez_iconst (v := 0) dX10_best_26 (by decide) ?_
  refine ez_istore (l' := [(5, .int 0), (4, .int 0), (3, .int 0), (2, .int ((-1))), (0, .ref 0), (1, .int (nI n0))]) dX10_best_27 (by decide) rfl ?_
  refine ez_eq (l2 := [(5, .int (nI 0)), (4, .int 0), (3, .int 0), (2, .int ((-1))), (0, .ref 0), (1, .int (nI n0))]) (σ2 := (n, sl, kd, I, L, Rf)) rfl rfl rfl rfl ?_
  refine ez_for 10 (fun k (a : (Nat → Nat → Int32) × (Nat → Nat → Int64) × Int32 × Int32 × Int32) => ([(5, .int (nI k)), (4, .int a.2.2.2.2), (3, .int a.2.2.1), (2, .int a.2.2.2.1), (0, .ref 0), (1, .int (nI n0))], (n, sl, kd, a.1, a.2.1, Rf))) (fun k a => zK n kd I L Rf I a.1 a.2.1 Rf T none none false ∧ (a.2.2.1, a.2.2.2.1) = a_best T n0 k ∧ ∀ q, q < 10 → T.x 21 = nI q → q < k → a.2.2.2.2 = zlg T (T.x 21) n0) ?_ ?_ 10 0 (I, L, 0, (-1), 0) (by omega) ⟨hK0, rfl, (fun q _ _ h => absurd h (Nat.not_lt_zero q))⟩
  · rintro k ⟨Ia, La, ba, bm, ai⟩ hk ⟨hKl, hac, hex⟩ ih
    have hKl : zK n kd I L Rf I Ia La Rf T none none false := hKl
    have hac : (ba, bm) = a_best T n0 k := hac
    have hex : ∀ q, q < 10 → T.x 21 = nI q → q < k → ai = zlg T (T.x 21) n0 := hex
    show ez_P _ _ _ _ _ _ 29 [(5, .int (nI k)), (4, .int ai), (3, .int ba), (2, .int bm), (0, .ref 0), (1, .int (nI n0))] [] (n, sl, kd, Ia, La, Rf) _
    refine ez_iload (i := 5) dX10_best_29 rfl ?_
    refine ez_bipush (v := 9) dX10_best_31 (by decide) ?_
    refine ez_icmp_gt (tgt := 125) dX10_best_33 (by decide) (fun c2 => absurd c2 (Int32.not_lt.mpr (nI_le (b := 9) (by omega) (by decide)))) (fun c2 => ?_)
    refine ez_aload_n (i := 0) dX10_best_36 rfl rfl ?_
    refine ez_getR dX10_best_37 flX10_37 (hF.lt (by decide)) (hF.kc (by decide) rfl) (hF.pt 25 rfl) ?_
    refine ez_aload_n (i := 0) dX10_best_40 rfl rfl ?_
    refine ez_getR dX10_best_41 flX10_33 (hF.lt (by decide)) (hF.kc (by decide) rfl) (hF.pt 21 rfl) ?_
    refine ez_callV (M1 := mX7_copy) (rest := []) dX10_best_44 mlX10_188 mvX7_copy rfl (hF.lt (by decide)) (hF.kc (by decide) rfl) (Nat.le_of_ble_eq_true rfl) rfl (y_X7_copy (I := Ia) (L := La) (d + 59) (i := 25) (j := 21) (hF.shp (by decide)) (by decide) (hF.shp (by decide)) (by decide) (by decide) hKl.C.sh.cr hO.c) (eb_vok rfl) ?_
    rintro _ _ ⟨rfl, rfl⟩
    refine ez_nmI (fun I3 hI3 => ?_)
    show ez_P _ _ _ _ _ _ 47 [(5, .int (nI k)), (4, .int ai), (3, .int ba), (2, .int bm), (0, .ref 0), (1, .int (nI n0))] [] (n, sl, kd, I3, La, Rf) _
    have hK4 : zK n kd I L Rf I I3 La Rf T (some T.x) none false := by rw [hI3]; exact hKl.cpg
    refine ez_aload_n (i := 0) dX10_best_47 rfl rfl ?_
    refine ez_getR dX10_best_48 flX10_37 (hF.lt (by decide)) (hF.kc (by decide) rfl) (hF.pt 25 rfl) ?_
    refine ez_iload (i := 5) dX10_best_51 rfl ?_
    refine ez_pI dX10_best_53 plX10_272 (hF.lt (by decide)) (hF.lx (by decide)) (hF.kc (by decide) rfl) rfl rfl ?_
    refine ez_nmI (fun I5 hI5 => ?_)
    have hK6 : zK n kd I L Rf I I5 La Rf T (some (zup T.x 21 (nI k))) none false := by rw [hI5]; exact hK4.sai hc7
    refine ez_aload_n (i := 0) dX10_best_56 rfl rfl ?_
    refine ez_getR dX10_best_57 flX10_26 (hF.lt (by decide)) (hF.kc (by decide) rfl) (hF.pt 4 rfl) ?_
    refine ez_aload_n (i := 0) dX10_best_60 rfl rfl ?_
    refine ez_getR dX10_best_61 flX10_37 (hF.lt (by decide)) (hF.kc (by decide) rfl) (hF.pt 25 rfl) ?_
    refine ez_iload_n (i := 1) dX10_best_64 rfl rfl ?_
    refine ez_callVm (M1 := mX6_letHoursGo) (rest := []) dX10_best_65 mlX10_195 mvX6_letHoursGo rfl (hF.lt (by decide)) (hF.kc (by decide) rfl) (Nat.le_of_ble_eq_true rfl) rfl (k_let (T := T) (I := I5) (L := La) (d + 54) hK6.C hO (j := 25) (by decide) (hK6.gs _ rfl) (hO.x.sail hO.c ⟨k, by omega, rfl⟩) (by omega) (N := n0) (by omega) (y := T.x) (fun q hq => zup_ne (by omega)) (f + 99)) k_hp_ok ?_
    rintro _ _ _ rfl ⟨rfl, I7, rfl, hs8, hn9⟩
    show ez_P _ _ _ _ _ _ 68 [(5, .int (nI k)), (4, .int ai), (3, .int ba), (2, .int bm), (0, .ref 0), (1, .int (nI n0))] (.int (zhc T (zup T.x 21 (nI k)) n0) :: []) (n, sl, kd, I7, La, Rf) _
    have hK10 : zK n kd I L Rf I I7 La Rf T (some (zhk T (zup T.x 21 (nI k)) n0)) none false := by exact hK6.gu hs8 (fun c hc => hn9 c (by omega))
    refine ez_pop dX10_best_68 rfl ?_
    refine ez_aload_n (i := 0) dX10_best_69 rfl rfl ?_
    refine ez_getR dX10_best_70 flX10_37 (hF.lt (by decide)) (hF.kc (by decide) rfl) (hF.pt 25 rfl) ?_
    refine ez_getI dX10_best_73 flX10_201 (hF.lt (by decide)) (hF.kc (by decide) rfl) ?_
    refine ez_topE (y := (zhk T (zup T.x 21 (nI k)) n0) 23) (hK10.gs _ rfl).lg ?_
    refine ez_aload_n (i := 0) dX10_best_76 rfl rfl ?_
    refine ez_getR dX10_best_77 flX10_33 (hF.lt (by decide)) (hF.kc (by decide) rfl) (hF.pt 21 rfl) ?_
    refine ez_getI dX10_best_80 flX10_201 (hF.lt (by decide)) (hF.kc (by decide) rfl) ?_
    refine ez_topE (y := T.x 23) hK10.C.sh.lg ?_
    refine ez_isub dX10_best_83 ?_
    refine ez_topE (y := zlg T (nI k) n0) rfl ?_
    refine ez_istore (l' := [(6, .int (zlg T (nI k) n0)), (5, .int (nI k)), (4, .int ai), (3, .int ba), (2, .int bm), (0, .ref 0), (1, .int (nI n0))]) dX10_best_84 (by decide) rfl ?_
    refine ez_iload (i := 6) dX10_best_86 rfl ?_
    refine ez_iload_n (i := 2) dX10_best_88 rfl rfl ?_
    refine ez_icmp_le (tgt := 98) dX10_best_89 (by decide) (fun c11 => ?_) (fun c11 => ?_)
    · skip
      refine ez_iload (i := 5) dX10_best_98 rfl ?_
      refine ez_aload_n (i := 0) dX10_best_100 rfl rfl ?_
      refine ez_getR dX10_best_101 flX10_33 (hF.lt (by decide)) (hF.kc (by decide) rfl) (hF.pt 21 rfl) ?_
      refine ez_getI dX10_best_104 flX10_272 (hF.lt (by decide)) (hF.kc (by decide) rfl) ?_
      refine ez_topE (y := T.x 21) hK10.C.sh.s ?_
      refine ez_icmp_ne (tgt := 115) dX10_best_107 (by decide) (fun c12 => ?_) (fun c12 => ?_)
      · skip
        refine ez_iload (i := 4) dX10_best_115 rfl ?_
        refine ez_istore (l' := [(4, .int ai), (6, .int (zlg T (nI k) n0)), (5, .int (nI k)), (3, .int ba), (2, .int bm), (0, .ref 0), (1, .int (nI n0))]) dX10_best_117 (by decide) rfl ?_
        refine ez_iinc (v := (nI (k + 1))) (l' := [(5, .int ((nI (k + 1)))), (4, .int ai), (6, .int (zlg T (nI k) n0)), (3, .int ba), (2, .int bm), (0, .ref 0), (1, .int (nI n0))]) dX10_best_119 rfl (nI_1 _) (by decide) rfl ?_
        refine ez_goto (tgt := 29) dX10_best_122 (by decide) ?_
        refine ez_sub (l' := [(5, .int ((nI (k + 1)))), (4, .int ai), (3, .int ba), (2, .int bm), (0, .ref 0), (1, .int (nI n0))]) [0, 1, 3, 4, 5, 6] rfl ?_
        exact ez_eq (l2 := [(5, .int (nI (k + 1))), (4, .int ai), (3, .int ba), (2, .int bm), (0, .ref 0), (1, .int (nI n0))]) rfl rfl rfl rfl (ih (I7, La, ba, bm, ai) ⟨hK10.g0, (by rw [a_best, ← hac, b_best]; simp only [if_pos c11, if_neg (Int32.not_lt.mpr c11)]), (fun q h1 h2 h3 => by by_cases e : q = k; exact absurd (by rw [h2, e]) c12; exact hex q h1 h2 (by omega))⟩)
      · skip
        refine ez_iload (i := 6) dX10_best_110 rfl ?_
        refine ez_goto (tgt := 117) dX10_best_112 (by decide) ?_
        refine ez_istore (l' := [(4, .int (zlg T (nI k) n0)), (6, .int (zlg T (nI k) n0)), (5, .int (nI k)), (3, .int ba), (2, .int bm), (0, .ref 0), (1, .int (nI n0))]) dX10_best_117 (by decide) rfl ?_
        refine ez_iinc (v := (nI (k + 1))) (l' := [(5, .int ((nI (k + 1)))), (4, .int (zlg T (nI k) n0)), (6, .int (zlg T (nI k) n0)), (3, .int ba), (2, .int bm), (0, .ref 0), (1, .int (nI n0))]) dX10_best_119 rfl (nI_1 _) (by decide) rfl ?_
        refine ez_goto (tgt := 29) dX10_best_122 (by decide) ?_
        refine ez_sub (l' := [(5, .int ((nI (k + 1)))), (4, .int (zlg T (nI k) n0)), (3, .int ba), (2, .int bm), (0, .ref 0), (1, .int (nI n0))]) [0, 1, 3, 4, 5, 6] rfl ?_
        exact ez_eq (l2 := [(5, .int (nI (k + 1))), (4, .int (zlg T (nI k) n0)), (3, .int ba), (2, .int bm), (0, .ref 0), (1, .int (nI n0))]) rfl rfl rfl rfl (ih (I7, La, ba, bm, zlg T (nI k) n0) ⟨hK10.g0, (by rw [a_best, ← hac, b_best]; simp only [if_pos c11, if_neg (Int32.not_lt.mpr c11)]), (fun q h1 h2 h3 => by rw [← Classical.not_not.mp c12])⟩)
    · skip
      refine ez_iload (i := 6) dX10_best_92 rfl ?_
      refine ez_istore_n (l' := [(2, .int (zlg T (nI k) n0)), (6, .int (zlg T (nI k) n0)), (5, .int (nI k)), (4, .int ai), (3, .int ba), (0, .ref 0), (1, .int (nI n0))]) dX10_best_94 rfl (by decide) rfl ?_
      refine ez_iload (i := 5) dX10_best_95 rfl ?_
      refine ez_istore_n (l' := [(3, .int (nI k)), (2, .int (zlg T (nI k) n0)), (6, .int (zlg T (nI k) n0)), (5, .int (nI k)), (4, .int ai), (0, .ref 0), (1, .int (nI n0))]) dX10_best_97 rfl (by decide) rfl ?_
      refine ez_iload (i := 5) dX10_best_98 rfl ?_
      refine ez_aload_n (i := 0) dX10_best_100 rfl rfl ?_
      refine ez_getR dX10_best_101 flX10_33 (hF.lt (by decide)) (hF.kc (by decide) rfl) (hF.pt 21 rfl) ?_
      refine ez_getI dX10_best_104 flX10_272 (hF.lt (by decide)) (hF.kc (by decide) rfl) ?_
      refine ez_topE (y := T.x 21) hK10.C.sh.s ?_
      refine ez_icmp_ne (tgt := 115) dX10_best_107 (by decide) (fun c13 => ?_) (fun c13 => ?_)
      · skip
        refine ez_iload (i := 4) dX10_best_115 rfl ?_
        refine ez_istore (l' := [(4, .int ai), (3, .int (nI k)), (2, .int (zlg T (nI k) n0)), (6, .int (zlg T (nI k) n0)), (5, .int (nI k)), (0, .ref 0), (1, .int (nI n0))]) dX10_best_117 (by decide) rfl ?_
        refine ez_iinc (v := (nI (k + 1))) (l' := [(5, .int ((nI (k + 1)))), (4, .int ai), (3, .int (nI k)), (2, .int (zlg T (nI k) n0)), (6, .int (zlg T (nI k) n0)), (0, .ref 0), (1, .int (nI n0))]) dX10_best_119 rfl (nI_1 _) (by decide) rfl ?_
        refine ez_goto (tgt := 29) dX10_best_122 (by decide) ?_
        refine ez_sub (l' := [(5, .int ((nI (k + 1)))), (4, .int ai), (3, .int (nI k)), (2, .int (zlg T (nI k) n0)), (0, .ref 0), (1, .int (nI n0))]) [0, 1, 2, 3, 5, 6] rfl ?_
        exact ez_eq (l2 := [(5, .int (nI (k + 1))), (4, .int ai), (3, .int (nI k)), (2, .int (zlg T (nI k) n0)), (0, .ref 0), (1, .int (nI n0))]) rfl rfl rfl rfl (ih (I7, La, nI k, zlg T (nI k) n0, ai) ⟨hK10.g0, (by rw [a_best, ← hac, b_best]; simp only [if_neg c11, if_pos (Int32.not_le.mp c11)]), (fun q h1 h2 h3 => by by_cases e : q = k; exact absurd (by rw [h2, e]) c13; exact hex q h1 h2 (by omega))⟩)
      · skip
        refine ez_iload (i := 6) dX10_best_110 rfl ?_
        refine ez_goto (tgt := 117) dX10_best_112 (by decide) ?_
        refine ez_istore (l' := [(4, .int (zlg T (nI k) n0)), (3, .int (nI k)), (2, .int (zlg T (nI k) n0)), (6, .int (zlg T (nI k) n0)), (5, .int (nI k)), (0, .ref 0), (1, .int (nI n0))]) dX10_best_117 (by decide) rfl ?_
        refine ez_iinc (v := (nI (k + 1))) (l' := [(5, .int ((nI (k + 1)))), (4, .int (zlg T (nI k) n0)), (3, .int (nI k)), (2, .int (zlg T (nI k) n0)), (6, .int (zlg T (nI k) n0)), (0, .ref 0), (1, .int (nI n0))]) dX10_best_119 rfl (nI_1 _) (by decide) rfl ?_
        refine ez_goto (tgt := 29) dX10_best_122 (by decide) ?_
        refine ez_sub (l' := [(5, .int ((nI (k + 1)))), (4, .int (zlg T (nI k) n0)), (3, .int (nI k)), (2, .int (zlg T (nI k) n0)), (0, .ref 0), (1, .int (nI n0))]) [0, 1, 2, 3, 5, 6] rfl ?_
        exact ez_eq (l2 := [(5, .int (nI (k + 1))), (4, .int (zlg T (nI k) n0)), (3, .int (nI k)), (2, .int (zlg T (nI k) n0)), (0, .ref 0), (1, .int (nI n0))]) rfl rfl rfl rfl (ih (I7, La, nI k, zlg T (nI k) n0, zlg T (nI k) n0) ⟨hK10.g0, (by rw [a_best, ← hac, b_best]; simp only [if_neg c11, if_pos (Int32.not_le.mp c11)]), (fun q h1 h2 h3 => by rw [← Classical.not_not.mp c13])⟩)
  · rintro ⟨Ia, La, ba, bm, ai⟩ ⟨hKl, hac, hex⟩
    have hKl : zK n kd I L Rf I Ia La Rf T none none false := hKl
    have hac : (ba, bm) = a_best T n0 10 := hac
    have hex : ∀ q, q < 10 → T.x 21 = nI q → q < 10 → ai = zlg T (T.x 21) n0 := hex
    show ez_P _ _ _ _ _ _ 29 [(5, .int (nI 10)), (4, .int ai), (3, .int ba), (2, .int bm), (0, .ref 0), (1, .int (nI n0))] [] (n, sl, kd, Ia, La, Rf) _
    refine ez_iload (i := 5) dX10_best_29 rfl ?_
    refine ez_bipush (v := 9) dX10_best_31 (by decide) ?_
    refine ez_icmp_gt (tgt := 125) dX10_best_33 (by decide) (fun c14 => ?_) (fun c14 => absurd (by decide) c14)
    refine ez_aload_n (i := 0) dX10_best_125 rfl rfl ?_
    refine ez_getR dX10_best_126 flX10_19 (hF.lt (by decide)) (hF.kc (by decide) rfl) (hF.pt 3 rfl) ?_
    refine ez_iload_n (i := 2) dX10_best_129 rfl rfl ?_
    refine ez_iload (i := 4) dX10_best_130 rfl ?_
    refine ez_callV (M1 := mX4_tell_) (rest := []) dX10_best_132 mlX10_204 mvX4_tell_ rfl (hF.lt (by decide)) (hF.kc (by decide) rfl) (Nat.le_of_ble_eq_true rfl) rfl (y_X4_tell_ (I := Ia) (L := La) (d + 58) hF bm ai) z_tok ?_
    rintro _ _ ⟨rfl, I15, L16, rfl, hr17, ho18⟩
    show ez_P _ _ _ _ _ _ 135 [(5, .int (nI 10)), (4, .int ai), (3, .int ba), (2, .int bm), (0, .ref 0), (1, .int (nI n0))] [] (n, sl, kd, I15, L16, Rf) _
    have hK19 : zK n kd I L Rf I I15 L16 Rf (T.w_rw [bm.toInt64, ai.toInt64]) none none false := by exact hKl.tell hr17 ho18
    refine ez_iload_n (i := 3) dX10_best_135 rfl rfl ?_
    refine ez_iret dX10_best_136 rfl rfl ?_
    obtain ⟨q, hq, eq⟩ := hO.x.s
    have hai := hex q hq eq hq
    rw [show s_best T (nI n0) = (ba, T.w_rw [bm.toInt64, ai.toInt64]) from by unfold s_best; rw [if_pos ⟨(z_n19 (N := 60) hn1 hn (by decide)).1, (z_n19 (N := 60) hn1 hn (by decide)).2⟩, nI_clamp (by omega), ← hac, hai]]
    exact hK19.end
theorem c_best_no {n : Nat} {sl : Nat × Nat} {kd : Nat → Nat × Nat} {I : Nat → Nat → Int32} {L : Nat → Nat → Int64} {Rf : Nat → Nat → Option Nat} (d : Nat) {T : zT} {H : Nat} (hC : zC n kd I L Rf T) (hO : zOk H T) (hH : H ≤ 1000000000) {v : Int32} (hn : ¬ (1 ≤ v ∧ v ≤ 60)) (f : Nat) (B : Nat → Int32) : ez_Q (f + 100) B f (fun _ => True) mX10_best (d + 60) [.ref 0, .int v] (n, sl, kd, I, L, Rf) (zpC n sl kd I L Rf (some (.int (s_best T v).1)) (s_best T v).2) := by
  have hF := hC.F; have hc7 := hO.c
  have hK0 : zK n kd I L Rf I I L Rf T none none false := zK.start hC
  have hsp : s_best T v = ((-1), T) := (by unfold s_best; rw [if_neg hn])
  rw [hsp]
  refine ez_meth pn_X.2.2.2.2.2.2.2.2.2.2.1 (Nat.le_of_ble_eq_true rfl) ?_
  show ez_P _ _ _ _ _ _ 0 [(0, .ref 0), (1, .int v)] [] (n, sl, kd, I, L, Rf) _
  refine ez_iload_n (i := 1) dX10_best_0 rfl rfl ?_
  refine ez_iconst (v := 1) dX10_best_1 (by decide) ?_
  refine ez_bipush (v := 60) dX10_best_2 (by decide) ?_
  refine ez_callS (M1 := mX10_within) (rest := []) dX10_best_4 mlX10_158 msX10_within rfl (Nat.le_of_ble_eq_true rfl) rfl (zq_b0 hn (zq_b (q_X10_within (d + 59) v 1 60) (n, sl, kd, I, L, Rf))) eb_rok ?_
  rintro _ _ ⟨rfl, rfl⟩
  show ez_P _ _ _ _ _ _ 7 [(0, .ref 0), (1, .int v)] (.int 0 :: []) _ _
  refine ez_if_ne (tgt := 12) dX10_best_7 (by decide) (fun c1 => absurd c1 (by decide)) (fun c1 => ?_)
  refine ez_iconst (v := (-1)) dX10_best_10 (by decide) ?_
  refine ez_iret dX10_best_11 rfl rfl ?_
  exact hK0.end
theorem c_best {n : Nat} {sl : Nat × Nat} {kd : Nat → Nat × Nat} {I : Nat → Nat → Int32} {L : Nat → Nat → Int64} {Rf : Nat → Nat → Option Nat} (d : Nat) {T : zT} {H : Nat} (hC : zC n kd I L Rf T) (hO : zOk H T) (hH : H ≤ 1000000000) (v : Int32) (f : Nat) (B : Nat → Int32) : ez_Q (f + 100) B f (fun _ => True) mX10_best (d + 60) [.ref 0, .int v] (n, sl, kd, I, L, Rf) (zpC n sl kd I L Rf (some (.int (s_best T v).1)) (s_best T v).2) := by
  by_cases hn : 1 ≤ v ∧ v ≤ 60
  · obtain ⟨n0, _, hn0, rfl⟩ := z_pk1 (lo := 1) (N := 60) hn (by decide) (by decide)
    exact c_best_ok d hC hO hH (by assumption) hn0 f B
  · exact c_best_no d hC hO hH hn f B
theorem c_trims_ok {n : Nat} {sl : Nat × Nat} {kd : Nat → Nat × Nat} {I : Nat → Nat → Int32} {L : Nat → Nat → Int64} {Rf : Nat → Nat → Option Nat} (d : Nat) {T : zT} {H : Nat} (hC : zC n kd I L Rf T) (hO : zOk H T) (hH : H ≤ 1000000000) {b0 : Nat} (hb : b0 < T.c) (f : Nat) (B : Nat → Int32) : ez_Q (f + 100) B f (fun _ => True) mX10_trims (d + 60) [.ref 0, .int (nI b0)] (n, sl, kd, I, L, Rf) (zpC n sl kd I L Rf (some (.int (s_trims T (nI b0)).1)) (s_trims T (nI b0)).2) := by
  have hF := hC.F; have hc7 := hO.c
  have hK0 : zK n kd I L Rf I I L Rf T none none false := zK.start hC
  refine ez_meth pn_X.2.2.2.2.2.2.2.2.2.2.1 (Nat.le_of_ble_eq_true rfl) ?_
  show ez_P _ _ _ _ _ _ 0 [(0, .ref 0), (1, .int (nI b0))] [] (n, sl, kd, I, L, Rf) _
  refine ez_aload_n (i := 0) dX10_trims_0 rfl rfl ?_
  refine ez_getR dX10_trims_1 flX10_33 (hF.lt (by decide)) (hF.kc (by decide) rfl) (hF.pt 21 rfl) ?_
  refine ez_iload_n (i := 1) dX10_trims_4 rfl rfl ?_
  refine ez_callV (M1 := mX7_has) (rest := []) dX10_trims_5 mlX10_155 mvX7_has rfl (hF.lt (by decide)) (hF.kc (by decide) rfl) (Nat.le_of_ble_eq_true rfl) rfl (zq_b1 (z_bin hb hO.c) (k_has (I := I) (L := L) (d + 59) hK0.C (nI b0))) eb_rok ?_
  rintro _ _ ⟨rfl, rfl⟩
  show ez_P _ _ _ _ _ _ 8 [(0, .ref 0), (1, .int (nI b0))] (.int 1 :: []) _ _
  refine ez_if_ne (tgt := 13) dX10_trims_8 (by decide) (fun c1 => ?_) (fun c1 => absurd (by decide) c1)
  refine ez_aload_n (i := 0) dX10_trims_13 rfl rfl ?_
  refine ez_getR dX10_trims_14 flX10_37 (hF.lt (by decide)) (hF.kc (by decide) rfl) (hF.pt 25 rfl) ?_
  refine ez_aload_n (i := 0) dX10_trims_17 rfl rfl ?_
  refine ez_getR dX10_trims_18 flX10_33 (hF.lt (by decide)) (hF.kc (by decide) rfl) (hF.pt 21 rfl) ?_
  refine ez_callV (M1 := mX7_copy) (rest := []) dX10_trims_21 mlX10_188 mvX7_copy rfl (hF.lt (by decide)) (hF.kc (by decide) rfl) (Nat.le_of_ble_eq_true rfl) rfl (y_X7_copy (I := I) (L := L) (d + 59) (i := 25) (j := 21) (hF.shp (by decide)) (by decide) (hF.shp (by decide)) (by decide) (by decide) hK0.C.sh.cr hO.c) (eb_vok rfl) ?_
  rintro _ _ ⟨rfl, rfl⟩
  refine ez_nmI (fun I2 hI2 => ?_)
  show ez_P _ _ _ _ _ _ 24 [(0, .ref 0), (1, .int (nI b0))] [] (n, sl, kd, I2, L, Rf) _
  have hK3 : zK n kd I L Rf I I2 L Rf T (some T.x) none false := by rw [hI2]; exact hK0.cpg
  refine ez_iconst (v := 0) dX10_trims_24 (by decide) ?_
  refine ez_istore_n (l' := [(2, .int 0), (0, .ref 0), (1, .int (nI b0))]) dX10_trims_25 rfl (by decide) rfl ?_
  refine ez_bipush (v := 21) dX10_trims_26 (by decide) ?_
  refine ez_istore_n (l' := [(3, .int 21), (2, .int 0), (0, .ref 0), (1, .int (nI b0))]) dX10_trims_28 rfl (by decide) rfl ?_
  refine ez_bipush (v := (-5)) dX10_trims_29 (by decide) ?_
  refine ez_istore (l' := [(4, .int ((-5))), (3, .int 21), (2, .int 0), (0, .ref 0), (1, .int (nI b0))]) dX10_trims_31 (by decide) rfl ?_
  have hK4 : zK n kd I L Rf I I2 L Rf T (some (zup T.x (14 + b0) (T.x (14 + b0)))) none false := by rw [show zup T.x (14 + b0) (T.x (14 + b0)) = T.x from zup_id]; exact hK3
  refine ez_le (f' := f + (100 - 0)) (by omega) ?_
  refine ez_eq (l2 := [(4, .int ((nI 0 - 5))), (3, .int 21), (2, .int 0), (0, .ref 0), (1, .int (nI b0))]) (σ2 := (n, sl, kd, I2, L, Rf)) rfl (by rw [show (nI 0 - 5 : Int32) = -5 from by decide]) rfl rfl ?_
  refine ez_forB 11 (fun k => f + (100 - k)) (fun k (a : (Nat → Nat → Int32) × (Nat → Nat → Int64) × Int32 × Int32 × Int32) => ([(4, .int ((nI k - 5))), (3, .int a.2.2.2.1), (2, .int a.2.2.1), (0, .ref 0), (1, .int (nI b0))], (n, sl, kd, a.1, a.2.1, Rf))) (fun k _ a => zK n kd I L Rf I a.1 a.2.1 Rf T (some (zup T.x (14 + b0) a.2.2.2.2)) none false ∧ (k = 0 ∧ a.2.2.2.1 = 21 ∨ 0 < k ∧ a.2.2.1 = a_trims T b0 k ∧ a.2.2.2.1 = zpl T (zup T.x (14 + b0) a.2.2.1))) ?_ ?_ 11 0 _ (I2, L, 0, 21, T.x (14 + b0)) (by omega) ⟨hK4, (Or.inl ⟨rfl, rfl⟩)⟩
  · rintro k Bm ⟨Ia, La, bb, ls, pl⟩ hk ⟨hKl, hex⟩ ih
    have hKl : zK n kd I L Rf I Ia La Rf T (some (zup T.x (14 + b0) pl)) none false := hKl
    have hex : (k = 0 ∧ ls = 21 ∨ 0 < k ∧ bb = a_trims T b0 k ∧ ls = zpl T (zup T.x (14 + b0) bb)) := hex
    refine ez_le (f' := f + (100 - (k + 1)) + 1) (by omega) ?_
    show ez_P _ _ _ _ _ _ 33 [(4, .int ((nI k - 5))), (3, .int ls), (2, .int bb), (0, .ref 0), (1, .int (nI b0))] [] (n, sl, kd, Ia, La, Rf) _
    refine ez_iload (i := 4) dX10_trims_33 rfl ?_
    refine ez_iconst (v := 5) dX10_trims_35 (by decide) ?_
    refine ez_icmp_gt (tgt := 91) dX10_trims_36 (by decide) (fun c5 => absurd c5 (Int32.not_lt.mpr (z_k5 k hk))) (fun c5 => ?_)
    refine ez_aload_n (i := 0) dX10_trims_39 rfl rfl ?_
    refine ez_getR dX10_trims_40 flX10_37 (hF.lt (by decide)) (hF.kc (by decide) rfl) (hF.pt 25 rfl) ?_
    refine ez_getR dX10_trims_43 flX10_171 (hF.lt (by decide)) (hF.kc (by decide) rfl) (hF.pt 24 rfl) ?_
    refine ez_iload_n (i := 1) dX10_trims_46 rfl rfl ?_
    refine ez_iload (i := 4) dX10_trims_47 rfl ?_
    refine ez_isN (k := b0) dX10_trims_49 (hF.lt (by decide)) (hF.lx (by decide)) (hF.ka (by decide) rfl) (by omega) (by decide) ?_
    refine ez_nmI (fun I6 hI6 => ?_)
    have hK7 : zK n kd I L Rf I I6 La Rf T (some (zup (zup T.x (14 + b0) pl) (14 + b0) (nI k - 5))) none false := by rw [hI6]; exact hKl.pla hc7 (by omega)
    have hK8 : zK n kd I L Rf I I6 La Rf T (some (zup T.x (14 + b0) (nI k - 5))) none false := by rw [show zup T.x (14 + b0) (nI k - 5) = zup (zup T.x (14 + b0) pl) (14 + b0) (nI k - 5) from zup_zup.symm]; exact hK7
    refine ez_aload_n (i := 0) dX10_trims_50 rfl rfl ?_
    refine ez_aload_n (i := 0) dX10_trims_51 rfl rfl ?_
    refine ez_getR dX10_trims_52 flX10_26 (hF.lt (by decide)) (hF.kc (by decide) rfl) (hF.pt 4 rfl) ?_
    refine ez_aload_n (i := 0) dX10_trims_55 rfl rfl ?_
    refine ez_getR dX10_trims_56 flX10_37 (hF.lt (by decide)) (hF.kc (by decide) rfl) (hF.pt 25 rfl) ?_
    refine ez_callVm (M1 := mX6_ballast) (rest := [.ref 0]) dX10_trims_59 mlX10_290 mvX6_ballast rfl (hF.lt (by decide)) (hF.kc (by decide) rfl) (Nat.le_of_ble_eq_true rfl) rfl (k_ballast (T := T) (I := I6) (L := La) (d + 54) hK8.C hO (j := 25) (by decide) (hK8.gs _ rfl) (hO.x.pla hO.c (b := b0) (by omega) ⟨k, by omega, rfl⟩) (by omega) (f + (100 - (k + 1))) _) eb_rok ?_
    rintro _ _ C9 _ ⟨rfl, rfl⟩
    show ez_P _ _ _ _ _ _ 62 [(4, .int ((nI k - 5))), (3, .int ls), (2, .int bb), (0, .ref 0), (1, .int (nI b0))] (.int (zst T (zup T.x (14 + b0) (nI k - 5))) :: [.ref 0]) (n, sl, kd, I6, La, Rf) _
    refine ez_callV (M1 := mX10_pullByBallast) (rest := []) dX10_trims_62 mlX10_294 mvX10_pullByBallast rfl (hF.lt (by decide)) (hF.kc (by decide) rfl) (Nat.le_of_ble_eq_true rfl) rfl (k_pbb (T := T) (I := I6) (L := La) (d + 39) hK8.C hO hH (zst T (zup T.x (14 + b0) (nI k - 5)))) eb_rok ?_
    rintro _ _ ⟨rfl, rfl⟩
    show ez_P _ _ _ _ _ _ 65 [(4, .int ((nI k - 5))), (3, .int ls), (2, .int bb), (0, .ref 0), (1, .int (nI b0))] (.int (z_pull (zst T (zup T.x (14 + b0) (nI k - 5))) (zhw T T.x) (T.x 21)) :: []) _ _
    refine ez_topE (y := zpl T (zup T.x (14 + b0) (nI k - 5))) (zpl_up (by omega)) ?_
    refine ez_istore (l' := [(5, .int (zpl T (zup T.x (14 + b0) (nI k - 5)))), (4, .int ((nI k - 5))), (3, .int ls), (2, .int bb), (0, .ref 0), (1, .int (nI b0))]) dX10_trims_65 (by decide) rfl ?_
    refine ez_iload (i := 5) dX10_trims_67 rfl ?_
    refine ez_abs dX10_trims_69 xmX10_287 (Nat.le_of_ble_eq_true rfl) ?_
    refine ez_topE (y := z_ab (zpl T (zup T.x (14 + b0) (nI k - 5)))) rfl ?_
    refine ez_iload_n (i := 3) dX10_trims_72 rfl rfl ?_
    refine ez_abs dX10_trims_73 xmX10_287 (Nat.le_of_ble_eq_true rfl) ?_
    refine ez_topE (y := z_ab ls) rfl ?_
    refine ez_icmp_ge (tgt := 85) dX10_trims_76 (by decide) (fun c10 => ?_) (fun c10 => ?_)
    · skip
      refine ez_iinc (v := (nI (k + 1) - 5)) (l' := [(4, .int ((nI (k + 1) - 5))), (5, .int (zpl T (zup T.x (14 + b0) (nI k - 5)))), (3, .int ls), (2, .int bb), (0, .ref 0), (1, .int (nI b0))]) dX10_trims_85 rfl (z_mc _ _) (by decide) rfl ?_
      refine ez_goto (tgt := 33) dX10_trims_88 (by decide) ?_
      refine ez_sub (l' := [(4, .int ((nI (k + 1) - 5))), (3, .int ls), (2, .int bb), (0, .ref 0), (1, .int (nI b0))]) [0, 2, 3, 4, 5] rfl ?_
      exact ez_eq (l2 := [(4, .int ((nI (k + 1) - 5))), (3, .int ls), (2, .int bb), (0, .ref 0), (1, .int (nI b0))]) rfl rfl rfl rfl (ih _ (I6, La, bb, ls, (nI k - 5)) ⟨hK8, (Or.inr ⟨by omega, by rcases hex with ⟨e, e2⟩ | ⟨e, e2, e3⟩; exact absurd (by rw [← e2]; exact c10) (z_tr0 (zpl_rg T _)); exact ⟨by rw [a_trims, b_trims, ← e2, if_pos (by rw [← e3]; exact c10)], e3⟩⟩)⟩)
    · skip
      refine ez_iload (i := 5) dX10_trims_79 rfl ?_
      refine ez_istore_n (l' := [(3, .int (zpl T (zup T.x (14 + b0) (nI k - 5)))), (5, .int (zpl T (zup T.x (14 + b0) (nI k - 5)))), (4, .int ((nI k - 5))), (2, .int bb), (0, .ref 0), (1, .int (nI b0))]) dX10_trims_81 rfl (by decide) rfl ?_
      refine ez_iload (i := 4) dX10_trims_82 rfl ?_
      refine ez_istore_n (l' := [(2, .int ((nI k - 5))), (3, .int (zpl T (zup T.x (14 + b0) (nI k - 5)))), (5, .int (zpl T (zup T.x (14 + b0) (nI k - 5)))), (4, .int ((nI k - 5))), (0, .ref 0), (1, .int (nI b0))]) dX10_trims_84 rfl (by decide) rfl ?_
      refine ez_iinc (v := (nI (k + 1) - 5)) (l' := [(4, .int ((nI (k + 1) - 5))), (2, .int ((nI k - 5))), (3, .int (zpl T (zup T.x (14 + b0) (nI k - 5)))), (5, .int (zpl T (zup T.x (14 + b0) (nI k - 5)))), (0, .ref 0), (1, .int (nI b0))]) dX10_trims_85 rfl (z_mc _ _) (by decide) rfl ?_
      refine ez_goto (tgt := 33) dX10_trims_88 (by decide) ?_
      refine ez_sub (l' := [(4, .int ((nI (k + 1) - 5))), (3, .int (zpl T (zup T.x (14 + b0) (nI k - 5)))), (2, .int ((nI k - 5))), (0, .ref 0), (1, .int (nI b0))]) [0, 2, 1, 4, 5] rfl ?_
      exact ez_eq (l2 := [(4, .int ((nI (k + 1) - 5))), (3, .int (zpl T (zup T.x (14 + b0) (nI k - 5)))), (2, .int ((nI k - 5))), (0, .ref 0), (1, .int (nI b0))]) rfl rfl rfl rfl (ih _ (I6, La, (nI k - 5), zpl T (zup T.x (14 + b0) (nI k - 5)), (nI k - 5)) ⟨hK8, (Or.inr ⟨by omega, by rcases hex with ⟨e, e2⟩ | ⟨e, e2, e3⟩; subst e; show nI 0 - 5 = _; rw [a_trims, b_trims, a_trims]; split; decide; rfl; rw [a_trims, b_trims, ← e2, if_neg (by rw [← e3]; exact c10)], rfl⟩)⟩)
  · rintro Bm ⟨Ia, La, bb, ls, pl⟩ ⟨hKl, hex⟩
    have hKl : zK n kd I L Rf I Ia La Rf T (some (zup T.x (14 + b0) pl)) none false := hKl
    have hex : (11 = 0 ∧ ls = 21 ∨ 0 < 11 ∧ bb = a_trims T b0 11 ∧ ls = zpl T (zup T.x (14 + b0) bb)) := hex
    show ez_P _ _ _ _ _ _ 33 [(4, .int ((nI 11 - 5))), (3, .int ls), (2, .int bb), (0, .ref 0), (1, .int (nI b0))] [] (n, sl, kd, Ia, La, Rf) _
    refine ez_iload (i := 4) dX10_trims_33 rfl ?_
    refine ez_iconst (v := 5) dX10_trims_35 (by decide) ?_
    refine ez_icmp_gt (tgt := 91) dX10_trims_36 (by decide) (fun c11 => ?_) (fun c11 => absurd (by decide) c11)
    refine ez_aload_n (i := 0) dX10_trims_91 rfl rfl ?_
    refine ez_getR dX10_trims_92 flX10_19 (hF.lt (by decide)) (hF.kc (by decide) rfl) (hF.pt 3 rfl) ?_
    refine ez_bipush (v := 100) dX10_trims_95 (by decide) ?_
    refine ez_iload_n (i := 3) dX10_trims_97 rfl rfl ?_
    refine ez_iadd dX10_trims_98 ?_
    refine ez_callV (M1 := mX4_tell) (rest := []) dX10_trims_99 mlX10_285 mvX4_tell rfl (hF.lt (by decide)) (hF.kc (by decide) rfl) (Nat.le_of_ble_eq_true rfl) rfl (y_X4_tell (I := Ia) (L := La) (d + 58) hF (100 + ls)) z_tok ?_
    rintro _ _ ⟨rfl, I12, L13, rfl, hr14, ho15⟩
    show ez_P _ _ _ _ _ _ 102 [(4, .int ((nI 11 - 5))), (3, .int ls), (2, .int bb), (0, .ref 0), (1, .int (nI b0))] [] (n, sl, kd, I12, L13, Rf) _
    have hK16 : zK n kd I L Rf I I12 L13 Rf (T.w_rw [(100 + ls).toInt64]) (some (zup T.x (14 + b0) pl)) none false := by exact hKl.tell hr14 ho15
    refine ez_bipush (v := 10) dX10_trims_102 (by decide) ?_
    refine ez_iload_n (i := 2) dX10_trims_104 rfl rfl ?_
    refine ez_iadd dX10_trims_105 ?_
    refine ez_iret dX10_trims_106 rfl rfl ?_
    obtain ⟨e2, e3⟩ : bb = a_trims T b0 11 ∧ ls = zpl T (zup T.x (14 + b0) bb) := by rcases hex with ⟨e, _⟩ | ⟨_, e⟩; exact absurd e (by decide); exact e
    rw [show s_trims T (nI b0) = (10 + bb, T.w_rw [(100 + ls).toInt64]) from by unfold s_trims; rw [if_pos ⟨(z_bin hb hO.c).1, (z_bin hb hO.c).2⟩, nI_clamp (by omega), ← e2, ← e3]]
    exact hK16.end
theorem c_trims_no {n : Nat} {sl : Nat × Nat} {kd : Nat → Nat × Nat} {I : Nat → Nat → Int32} {L : Nat → Nat → Int64} {Rf : Nat → Nat → Option Nat} (d : Nat) {T : zT} {H : Nat} (hC : zC n kd I L Rf T) (hO : zOk H T) (hH : H ≤ 1000000000) {v : Int32} (hn : ¬ (0 ≤ v ∧ v < nI T.c)) (f : Nat) (B : Nat → Int32) : ez_Q (f + 100) B f (fun _ => True) mX10_trims (d + 60) [.ref 0, .int v] (n, sl, kd, I, L, Rf) (zpC n sl kd I L Rf (some (.int (s_trims T v).1)) (s_trims T v).2) := by
  have hF := hC.F; have hc7 := hO.c
  have hK0 : zK n kd I L Rf I I L Rf T none none false := zK.start hC
  have hsp : s_trims T v = ((-1), T) := (by unfold s_trims; rw [if_neg hn])
  rw [hsp]
  refine ez_meth pn_X.2.2.2.2.2.2.2.2.2.2.1 (Nat.le_of_ble_eq_true rfl) ?_
  show ez_P _ _ _ _ _ _ 0 [(0, .ref 0), (1, .int v)] [] (n, sl, kd, I, L, Rf) _
  refine ez_aload_n (i := 0) dX10_trims_0 rfl rfl ?_
  refine ez_getR dX10_trims_1 flX10_33 (hF.lt (by decide)) (hF.kc (by decide) rfl) (hF.pt 21 rfl) ?_
  refine ez_iload_n (i := 1) dX10_trims_4 rfl rfl ?_
  refine ez_callV (M1 := mX7_has) (rest := []) dX10_trims_5 mlX10_155 mvX7_has rfl (hF.lt (by decide)) (hF.kc (by decide) rfl) (Nat.le_of_ble_eq_true rfl) rfl (zq_b0 hn (k_has (I := I) (L := L) (d + 59) hK0.C v)) eb_rok ?_
  rintro _ _ ⟨rfl, rfl⟩
  show ez_P _ _ _ _ _ _ 8 [(0, .ref 0), (1, .int v)] (.int 0 :: []) _ _
  refine ez_if_ne (tgt := 13) dX10_trims_8 (by decide) (fun c1 => absurd c1 (by decide)) (fun c1 => ?_)
  refine ez_iconst (v := (-1)) dX10_trims_11 (by decide) ?_
  refine ez_iret dX10_trims_12 rfl rfl ?_
  exact hK0.end
theorem c_trims {n : Nat} {sl : Nat × Nat} {kd : Nat → Nat × Nat} {I : Nat → Nat → Int32} {L : Nat → Nat → Int64} {Rf : Nat → Nat → Option Nat} (d : Nat) {T : zT} {H : Nat} (hC : zC n kd I L Rf T) (hO : zOk H T) (hH : H ≤ 1000000000) (v : Int32) (f : Nat) (B : Nat → Int32) : ez_Q (f + 100) B f (fun _ => True) mX10_trims (d + 60) [.ref 0, .int v] (n, sl, kd, I, L, Rf) (zpC n sl kd I L Rf (some (.int (s_trims T v).1)) (s_trims T v).2) := by
  by_cases hn : 0 ≤ v ∧ v < nI T.c
  · obtain ⟨b0, hb, rfl⟩ := pk_of (by have := hO.c; omega) hn.1 hn.2
    exact c_trims_ok d hC hO hH hb f B
  · exact c_trims_no d hC hO hH hn f B
def b_bol (T : zT) (k : Nat) (a : Int32) : Int32 := a + zwt T T.x k * T.x (14 + k)
def a_bol (T : zT) : Nat → Int32
  | 0 => 0
  | k + 1 => b_bol T k (a_bol T k)
theorem a_bol_z {T : zT} : ∀ k, a_bol T k = zsl T.rv T.pr T.c T.x (T.x 22) (T.x 25) k := by
  intro k
  induction k with
  | zero => rfl
  | succ k ih => rw [a_bol, b_bol, zsl, ih]; rfl
theorem k_bol {n : Nat} {sl : Nat × Nat} {kd : Nat → Nat × Nat} {I : Nat → Nat → Int32} {L : Nat → Nat → Int64} {Rf : Nat → Nat → Option Nat} (d : Nat) {T : zT} {H : Nat} {I0 g : Nat → Nat → Int32} {L0 : Nat → Nat → Int64} {R0 : Nat → Nat → Option Nat} {G Bf : Option (Nat → Int32)} (hK : zK n kd I0 L0 R0 g I L Rf T G Bf true) (hO : zOk H T) : zq mX10_ballastOfLoads (d + 20) [.ref 0] (n, sl, kd, I, L, Rf) (eb_r (zst T T.x) (n, sl, kd, I, L, Rf)) := by
  have hC := hK.C; have hF := hC.F; have hc7 := hO.c
  intro f B
  refine ez_meth pn_X.2.2.2.2.2.2.2.2.2.2.1 (Nat.le_of_ble_eq_true rfl) ?_
  show ez_P _ _ _ _ _ _ 0 [(0, .ref 0)] [] (n, sl, kd, I, L, Rf) _
  refine ez_iconst (v := 0) dX10_ballastOfLoads_0 (by decide) ?_
  refine ez_istore_n (l' := [(1, .int 0), (0, .ref 0)]) dX10_ballastOfLoads_1 rfl (by decide) rfl ?_
  refine ez_iconst (v := 0) dX10_ballastOfLoads_2 (by decide) ?_
  refine ez_istore_n (l' := [(2, .int 0), (1, .int 0), (0, .ref 0)]) dX10_ballastOfLoads_3 rfl (by decide) rfl ?_
  refine ez_eq (l2 := [(2, .int (nI 0)), (1, .int 0), (0, .ref 0)]) (σ2 := (n, sl, kd, I, L, Rf)) rfl rfl rfl rfl ?_
  refine ez_for T.c (fun k (a : Int32) => ([(2, .int (nI k)), (1, .int a), (0, .ref 0)], (n, sl, kd, I, L, Rf))) (fun k a => a = a_bol T k) ?_ ?_ T.c 0 (0) (by omega) rfl
  · rintro k su hk hac ih
    have hac : su = a_bol T k := hac
    show ez_P _ _ _ _ _ _ 4 [(2, .int (nI k)), (1, .int su), (0, .ref 0)] [] (n, sl, kd, I, L, Rf) _
    refine ez_iload_n (i := 2) dX10_ballastOfLoads_4 rfl rfl ?_
    refine ez_aload_n (i := 0) dX10_ballastOfLoads_5 rfl rfl ?_
    refine ez_getR dX10_ballastOfLoads_6 flX10_33 (hF.lt (by decide)) (hF.kc (by decide) rfl) (hF.pt 21 rfl) ?_
    refine ez_getI dX10_ballastOfLoads_9 flX10_126 (hF.lt (by decide)) (hF.kc (by decide) rfl) ?_
    refine ez_topE (y := nI T.c) hK.C.sh.cr ?_
    refine ez_icmp_ge (tgt := 40) dX10_ballastOfLoads_12 (by decide) (fun c1 => absurd c1 (nI_ge hk (by omega))) (fun c1 => ?_)
    refine ez_iload_n (i := 1) dX10_ballastOfLoads_15 rfl rfl ?_
    refine ez_aload_n (i := 0) dX10_ballastOfLoads_16 rfl rfl ?_
    refine ez_getR dX10_ballastOfLoads_17 flX10_91 (hF.lt (by decide)) (hF.kc (by decide) rfl) (hF.pt 103 rfl) ?_
    refine ez_iload_n (i := 2) dX10_ballastOfLoads_20 rfl rfl ?_
    refine ez_iaN (k := k) dX10_ballastOfLoads_21 (hF.lt (by decide)) (hF.ka (by decide) rfl) (by omega) (by decide) ?_
    refine ez_topE (y := zwt T T.x k) (hK.lo rfl _ (by omega)) ?_
    refine ez_aload_n (i := 0) dX10_ballastOfLoads_22 rfl rfl ?_
    refine ez_getR dX10_ballastOfLoads_23 flX10_33 (hF.lt (by decide)) (hF.kc (by decide) rfl) (hF.pt 21 rfl) ?_
    refine ez_getR dX10_ballastOfLoads_26 flX10_171 (hF.lt (by decide)) (hF.kc (by decide) rfl) (hF.pt 20 rfl) ?_
    refine ez_iload_n (i := 2) dX10_ballastOfLoads_29 rfl rfl ?_
    refine ez_iaN (k := k) dX10_ballastOfLoads_30 (hF.lt (by decide)) (hF.ka (by decide) rfl) (by omega) (by decide) ?_
    refine ez_topE (y := T.x (14 + k)) (hK.C.sh.p _ (by omega)) ?_
    refine ez_imul dX10_ballastOfLoads_31 ?_
    refine ez_iadd dX10_ballastOfLoads_32 ?_
    refine ez_istore_n (l' := [(1, .int (su + ((zwt T T.x k) * (T.x (14 + k))))), (2, .int (nI k)), (0, .ref 0)]) dX10_ballastOfLoads_33 rfl (by decide) rfl ?_
    refine ez_iinc (v := (nI (k + 1))) (l' := [(2, .int ((nI (k + 1)))), (1, .int (su + ((zwt T T.x k) * (T.x (14 + k))))), (0, .ref 0)]) dX10_ballastOfLoads_34 rfl (nI_1 _) (by decide) rfl ?_
    refine ez_goto (tgt := 4) dX10_ballastOfLoads_37 (by decide) ?_
    exact ez_eq (l2 := [(2, .int (nI (k + 1))), (1, .int (su + ((zwt T T.x k) * (T.x (14 + k))))), (0, .ref 0)]) rfl rfl rfl rfl (ih (su + ((zwt T T.x k) * (T.x (14 + k)))) (by rw [a_bol, ← hac, b_bol]))
  · rintro su hac
    have hac : su = a_bol T T.c := hac
    show ez_P _ _ _ _ _ _ 4 [(2, .int (nI T.c)), (1, .int su), (0, .ref 0)] [] (n, sl, kd, I, L, Rf) _
    refine ez_iload_n (i := 2) dX10_ballastOfLoads_4 rfl rfl ?_
    refine ez_aload_n (i := 0) dX10_ballastOfLoads_5 rfl rfl ?_
    refine ez_getR dX10_ballastOfLoads_6 flX10_33 (hF.lt (by decide)) (hF.kc (by decide) rfl) (hF.pt 21 rfl) ?_
    refine ez_getI dX10_ballastOfLoads_9 flX10_126 (hF.lt (by decide)) (hF.kc (by decide) rfl) ?_
    refine ez_topE (y := nI T.c) hK.C.sh.cr ?_
    refine ez_icmp_ge (tgt := 40) dX10_ballastOfLoads_12 (by decide) (fun c2 => ?_) (fun c2 => absurd (nI_le (Nat.le_refl _) (by omega)) c2)
    refine ez_iload_n (i := 1) dX10_ballastOfLoads_40 rfl rfl ?_
    refine ez_iret dX10_ballastOfLoads_41 rfl rfl ?_
    rw [hac, a_bol_z]; exact ⟨rfl, rfl⟩
def b_lof (T : zT) (s : Int32) (k : Nat) (a : Int32) : Int32 := a + (if s >>> (nI k &&& 31) &&& 1 = 1 then zwt T T.x k else 0)
def a_lof (T : zT) (s : Int32) : Nat → Int32
  | 0 => 0
  | k + 1 => b_lof T s k (a_lof T s k)
theorem a_lof_z {T : zT} {s : Int32} : ∀ k, a_lof T s k = zws T s k := by
  intro k
  induction k with
  | zero => rfl
  | succ k ih => rw [a_lof, b_lof, zws, ih]
theorem k_lof {n : Nat} {sl : Nat × Nat} {kd : Nat → Nat × Nat} {I : Nat → Nat → Int32} {L : Nat → Nat → Int64} {Rf : Nat → Nat → Option Nat} (d : Nat) {T : zT} {H : Nat} {I0 g : Nat → Nat → Int32} {L0 : Nat → Nat → Int64} {R0 : Nat → Nat → Option Nat} {G Bf : Option (Nat → Int32)} (hK : zK n kd I0 L0 R0 g I L Rf T G Bf true) (hO : zOk H T) (s : Int32) : zq mX10_loadOf (d + 20) [.ref 0, .int s] (n, sl, kd, I, L, Rf) (eb_r (zws T s T.c) (n, sl, kd, I, L, Rf)) := by
  have hC := hK.C; have hF := hC.F; have hc7 := hO.c
  intro f B
  refine ez_meth pn_X.2.2.2.2.2.2.2.2.2.2.1 (Nat.le_of_ble_eq_true rfl) ?_
  show ez_P _ _ _ _ _ _ 0 [(0, .ref 0), (1, .int s)] [] (n, sl, kd, I, L, Rf) _
  refine ez_iconst (v := 0) dX10_loadOf_0 (by decide) ?_
  refine ez_istore_n (l' := [(2, .int 0), (0, .ref 0), (1, .int s)]) dX10_loadOf_1 rfl (by decide) rfl ?_
  refine ez_iconst (v := 0) dX10_loadOf_2 (by decide) ?_
  refine ez_istore_n (l' := [(3, .int 0), (2, .int 0), (0, .ref 0), (1, .int s)]) dX10_loadOf_3 rfl (by decide) rfl ?_
  refine ez_eq (l2 := [(3, .int (nI 0)), (2, .int 0), (0, .ref 0), (1, .int s)]) (σ2 := (n, sl, kd, I, L, Rf)) rfl rfl rfl rfl ?_
  refine ez_for T.c (fun k (a : Int32) => ([(3, .int (nI k)), (2, .int a), (0, .ref 0), (1, .int s)], (n, sl, kd, I, L, Rf))) (fun k a => a = a_lof T s k) ?_ ?_ T.c 0 (0) (by omega) rfl
  · rintro k su hk hac ih
    have hac : su = a_lof T s k := hac
    show ez_P _ _ _ _ _ _ 4 [(3, .int (nI k)), (2, .int su), (0, .ref 0), (1, .int s)] [] (n, sl, kd, I, L, Rf) _
    refine ez_iload_n (i := 3) dX10_loadOf_4 rfl rfl ?_
    refine ez_aload_n (i := 0) dX10_loadOf_5 rfl rfl ?_
    refine ez_getR dX10_loadOf_6 flX10_33 (hF.lt (by decide)) (hF.kc (by decide) rfl) (hF.pt 21 rfl) ?_
    refine ez_getI dX10_loadOf_9 flX10_126 (hF.lt (by decide)) (hF.kc (by decide) rfl) ?_
    refine ez_topE (y := nI T.c) hK.C.sh.cr ?_
    refine ez_icmp_ge (tgt := 42) dX10_loadOf_12 (by decide) (fun c1 => absurd c1 (nI_ge hk (by omega))) (fun c1 => ?_)
    refine ez_iload_n (i := 2) dX10_loadOf_15 rfl rfl ?_
    refine ez_iload_n (i := 1) dX10_loadOf_16 rfl rfl ?_
    refine ez_iload_n (i := 3) dX10_loadOf_17 rfl rfl ?_
    refine ez_callS (M1 := mX10_hasBit) (rest := [.int su]) dX10_loadOf_18 mlX10_346 msX10_hasBit rfl (Nat.le_of_ble_eq_true rfl) rfl (zq_b (q_X10_hasBit (d + 19) s (nI k)) (n, sl, kd, I, L, Rf)) eb_bok ?_
    rintro _ _ ⟨rfl, ⟨b2, rfl⟩ | ⟨b2, rfl⟩⟩
    · show ez_P _ _ _ _ _ _ 21 [(3, .int (nI k)), (2, .int su), (0, .ref 0), (1, .int s)] (.int 1 :: [.int su]) _ _
      refine ez_if_eq (tgt := 33) dX10_loadOf_21 (by decide) (fun c3 => absurd c3 (by decide)) (fun c3 => ?_)
      refine ez_aload_n (i := 0) dX10_loadOf_24 rfl rfl ?_
      refine ez_getR dX10_loadOf_25 flX10_91 (hF.lt (by decide)) (hF.kc (by decide) rfl) (hF.pt 103 rfl) ?_
      refine ez_iload_n (i := 3) dX10_loadOf_28 rfl rfl ?_
      refine ez_iaN (k := k) dX10_loadOf_29 (hF.lt (by decide)) (hF.ka (by decide) rfl) (by omega) (by decide) ?_
      refine ez_topE (y := zwt T T.x k) (hK.lo rfl _ (by omega)) ?_
      refine ez_goto (tgt := 34) dX10_loadOf_30 (by decide) ?_
      refine ez_iadd dX10_loadOf_34 ?_
      refine ez_istore_n (l' := [(2, .int (su + (zwt T T.x k))), (3, .int (nI k)), (0, .ref 0), (1, .int s)]) dX10_loadOf_35 rfl (by decide) rfl ?_
      refine ez_iinc (v := (nI (k + 1))) (l' := [(3, .int ((nI (k + 1)))), (2, .int (su + (zwt T T.x k))), (0, .ref 0), (1, .int s)]) dX10_loadOf_36 rfl (nI_1 _) (by decide) rfl ?_
      refine ez_goto (tgt := 4) dX10_loadOf_39 (by decide) ?_
      exact ez_eq (l2 := [(3, .int (nI (k + 1))), (2, .int (su + (zwt T T.x k))), (0, .ref 0), (1, .int s)]) rfl rfl rfl rfl (ih (su + (zwt T T.x k)) (by rw [a_lof, ← hac, b_lof]; simp only [if_pos b2]))
    · show ez_P _ _ _ _ _ _ 21 [(3, .int (nI k)), (2, .int su), (0, .ref 0), (1, .int s)] (.int 0 :: [.int su]) _ _
      refine ez_if_eq (tgt := 33) dX10_loadOf_21 (by decide) (fun c4 => ?_) (fun c4 => absurd (by decide) c4)
      refine ez_iconst (v := 0) dX10_loadOf_33 (by decide) ?_
      refine ez_iadd dX10_loadOf_34 ?_
      refine ez_istore_n (l' := [(2, .int (su + 0)), (3, .int (nI k)), (0, .ref 0), (1, .int s)]) dX10_loadOf_35 rfl (by decide) rfl ?_
      refine ez_iinc (v := (nI (k + 1))) (l' := [(3, .int ((nI (k + 1)))), (2, .int (su + 0)), (0, .ref 0), (1, .int s)]) dX10_loadOf_36 rfl (nI_1 _) (by decide) rfl ?_
      refine ez_goto (tgt := 4) dX10_loadOf_39 (by decide) ?_
      exact ez_eq (l2 := [(3, .int (nI (k + 1))), (2, .int (su + 0)), (0, .ref 0), (1, .int s)]) rfl rfl rfl rfl (ih (su + 0) (by rw [a_lof, ← hac, b_lof]; simp only [if_neg b2]))
  · rintro su hac
    have hac : su = a_lof T s T.c := hac
    show ez_P _ _ _ _ _ _ 4 [(3, .int (nI T.c)), (2, .int su), (0, .ref 0), (1, .int s)] [] (n, sl, kd, I, L, Rf) _
    refine ez_iload_n (i := 3) dX10_loadOf_4 rfl rfl ?_
    refine ez_aload_n (i := 0) dX10_loadOf_5 rfl rfl ?_
    refine ez_getR dX10_loadOf_6 flX10_33 (hF.lt (by decide)) (hF.kc (by decide) rfl) (hF.pt 21 rfl) ?_
    refine ez_getI dX10_loadOf_9 flX10_126 (hF.lt (by decide)) (hF.kc (by decide) rfl) ?_
    refine ez_topE (y := nI T.c) hK.C.sh.cr ?_
    refine ez_icmp_ge (tgt := 42) dX10_loadOf_12 (by decide) (fun c5 => ?_) (fun c5 => absurd (nI_le (Nat.le_refl _) (by omega)) c5)
    refine ez_iload_n (i := 2) dX10_loadOf_42 rfl rfl ?_
    refine ez_iret dX10_loadOf_43 rfl rfl ?_
    rw [hac, a_lof_z]; exact ⟨rfl, rfl⟩
theorem c_frees {n : Nat} {sl : Nat × Nat} {kd : Nat → Nat × Nat} {I : Nat → Nat → Int32} {L : Nat → Nat → Int64} {Rf : Nat → Nat → Option Nat} (d : Nat) {T : zT} {H : Nat} (hC : zC n kd I L Rf T) (hO : zOk H T) (hH : H ≤ 1000000000) : zq mX10_frees (d + 60) [.ref 0] (n, sl, kd, I, L, Rf) (zpC n sl kd I L Rf (some (.int (s_frees T).1)) (s_frees T).2) := by
  have hF := hC.F; have hc7 := hO.c
  have hK0 : zK n kd I L Rf I I L Rf T none none false := zK.start hC
  intro f B
  refine ez_meth pn_X.2.2.2.2.2.2.2.2.2.2.1 (Nat.le_of_ble_eq_true rfl) ?_
  show ez_P _ _ _ _ _ _ 0 [(0, .ref 0)] [] (n, sl, kd, I, L, Rf) _
  refine ez_aload_n (i := 0) dX10_frees_0 rfl rfl ?_
  refine ez_getR dX10_frees_1 flX10_33 (hF.lt (by decide)) (hF.kc (by decide) rfl) (hF.pt 21 rfl) ?_
  refine ez_getI dX10_frees_4 flX10_126 (hF.lt (by decide)) (hF.kc (by decide) rfl) ?_
  refine ez_topE (y := nI T.c) hK0.C.sh.cr ?_
  refine ez_if_ne (tgt := 13) dX10_frees_7 (by decide) (fun c1 => ?_) (fun c1 => ?_)
  · skip
    have hc0 : ¬ T.c = 0 := fun e => c1 (by rw [e]; decide)
    refine ez_aload_n (i := 0) dX10_frees_13 rfl rfl ?_
    refine ez_callV (M1 := mX10_weighAll) (rest := []) dX10_frees_14 mlX10_263 mvX10_weighAll rfl (hF.lt (by decide)) (hF.kc (by decide) rfl) (Nat.le_of_ble_eq_true rfl) rfl (k_weighAll (T := T) (I := I) (L := L) (d + 39) hK0.C hO hH) k_wo_ok ?_
    rintro _ _ ⟨rfl, I2, rfl, hl3, hn4⟩
    show ez_P _ _ _ _ _ _ 17 [(0, .ref 0)] [] (n, sl, kd, I2, L, Rf) _
    have hK5 : zK n kd I L Rf I I2 L Rf T none none true := by exact hK0.lod hl3 hn4
    refine ez_aload_n (i := 0) dX10_frees_17 rfl rfl ?_
    refine ez_callV (M1 := mX10_ballastOfLoads) (rest := []) dX10_frees_18 mlX10_307 mvX10_ballastOfLoads rfl (hF.lt (by decide)) (hF.kc (by decide) rfl) (Nat.le_of_ble_eq_true rfl) rfl (k_bol (T := T) (I := I2) (L := L) (d + 39) hK5 hO) eb_rok ?_
    rintro _ _ ⟨rfl, rfl⟩
    show ez_P _ _ _ _ _ _ 21 [(0, .ref 0)] (.int (zst T T.x) :: []) _ _
    refine ez_istore_n (l' := [(1, .int (zst T T.x)), (0, .ref 0)]) dX10_frees_21 rfl (by decide) rfl ?_
    refine ez_iconst (v := 0) dX10_frees_22 (by decide) ?_
    refine ez_istore_n (l' := [(2, .int 0), (1, .int (zst T T.x)), (0, .ref 0)]) dX10_frees_23 rfl (by decide) rfl ?_
    refine ez_bipush (v := 21) dX10_frees_24 (by decide) ?_
    refine ez_istore_n (l' := [(3, .int 21), (2, .int 0), (1, .int (zst T T.x)), (0, .ref 0)]) dX10_frees_26 rfl (by decide) rfl ?_
    refine ez_iconst (v := 0) dX10_frees_27 (by decide) ?_
    refine ez_istore (l' := [(4, .int 0), (3, .int 21), (2, .int 0), (1, .int (zst T T.x)), (0, .ref 0)]) dX10_frees_28 (by decide) rfl ?_
    refine ez_eq (l2 := [(4, .int (nI 0)), (3, .int 21), (2, .int 0), (1, .int (zst T T.x)), (0, .ref 0)]) (σ2 := (n, sl, kd, I2, L, Rf)) rfl rfl rfl rfl ?_
    refine ez_for T.c (fun k (a : Int32 × Int32) => ([(4, .int (nI k)), (3, .int a.2), (2, .int a.1), (1, .int (zst T T.x)), (0, .ref 0)], (n, sl, kd, I2, L, Rf))) (fun k a => (k = 0 ∧ a.2 = 21 ∨ 0 < k ∧ a.1 = a_frees T (k - 1) ∧ a.2 = zpo T a.1)) ?_ ?_ T.c 0 (0, 21) (by omega) (Or.inl ⟨rfl, rfl⟩)
    · rintro k ⟨bb, ls⟩ hk hin ih
      have hin : (k = 0 ∧ ls = 21 ∨ 0 < k ∧ bb = a_frees T (k - 1) ∧ ls = zpo T bb) := hin
      show ez_P _ _ _ _ _ _ 30 [(4, .int (nI k)), (3, .int ls), (2, .int bb), (1, .int (zst T T.x)), (0, .ref 0)] [] (n, sl, kd, I2, L, Rf) _
      refine ez_iload (i := 4) dX10_frees_30 rfl ?_
      refine ez_aload_n (i := 0) dX10_frees_32 rfl rfl ?_
      refine ez_getR dX10_frees_33 flX10_33 (hF.lt (by decide)) (hF.kc (by decide) rfl) (hF.pt 21 rfl) ?_
      refine ez_getI dX10_frees_36 flX10_126 (hF.lt (by decide)) (hF.kc (by decide) rfl) ?_
      refine ez_topE (y := nI T.c) hK5.C.sh.cr ?_
      refine ez_icmp_ge (tgt := 92) dX10_frees_39 (by decide) (fun c6 => absurd c6 (nI_ge hk (by omega))) (fun c6 => ?_)
      refine ez_aload_n (i := 0) dX10_frees_42 rfl rfl ?_
      refine ez_iload_n (i := 1) dX10_frees_43 rfl rfl ?_
      refine ez_aload_n (i := 0) dX10_frees_44 rfl rfl ?_
      refine ez_getR dX10_frees_45 flX10_91 (hF.lt (by decide)) (hF.kc (by decide) rfl) (hF.pt 103 rfl) ?_
      refine ez_iload (i := 4) dX10_frees_48 rfl ?_
      refine ez_iaN (k := k) dX10_frees_50 (hF.lt (by decide)) (hF.ka (by decide) rfl) (by omega) (by decide) ?_
      refine ez_topE (y := zwt T T.x k) (hK5.lo rfl _ (by omega)) ?_
      refine ez_aload_n (i := 0) dX10_frees_51 rfl rfl ?_
      refine ez_getR dX10_frees_52 flX10_33 (hF.lt (by decide)) (hF.kc (by decide) rfl) (hF.pt 21 rfl) ?_
      refine ez_getR dX10_frees_55 flX10_171 (hF.lt (by decide)) (hF.kc (by decide) rfl) (hF.pt 20 rfl) ?_
      refine ez_iload (i := 4) dX10_frees_58 rfl ?_
      refine ez_iaN (k := k) dX10_frees_60 (hF.lt (by decide)) (hF.ka (by decide) rfl) (by omega) (by decide) ?_
      refine ez_topE (y := T.x (14 + k)) (hK5.C.sh.p _ (by omega)) ?_
      refine ez_imul dX10_frees_61 ?_
      refine ez_isub dX10_frees_62 ?_
      refine ez_callV (M1 := mX10_pullByBallast) (rest := []) dX10_frees_63 mlX10_294 mvX10_pullByBallast rfl (hF.lt (by decide)) (hF.kc (by decide) rfl) (Nat.le_of_ble_eq_true rfl) rfl (k_pbb (T := T) (I := I2) (L := L) (d + 39) hK5.C hO hH ((zst T T.x) - ((zwt T T.x k) * (T.x (14 + k))))) eb_rok ?_
      rintro _ _ ⟨rfl, rfl⟩
      show ez_P _ _ _ _ _ _ 66 [(4, .int (nI k)), (3, .int ls), (2, .int bb), (1, .int (zst T T.x)), (0, .ref 0)] (.int (z_pull ((zst T T.x) - ((zwt T T.x k) * (T.x (14 + k)))) (zhw T T.x) (T.x 21)) :: []) _ _
      refine ez_topE (y := zpo T (nI k)) (zpo_k hk hc7) ?_
      refine ez_istore (l' := [(5, .int (zpo T (nI k))), (4, .int (nI k)), (3, .int ls), (2, .int bb), (1, .int (zst T T.x)), (0, .ref 0)]) dX10_frees_66 (by decide) rfl ?_
      refine ez_iload (i := 5) dX10_frees_68 rfl ?_
      refine ez_abs dX10_frees_70 xmX10_287 (Nat.le_of_ble_eq_true rfl) ?_
      refine ez_topE (y := z_ab (zpo T (nI k))) rfl ?_
      refine ez_iload_n (i := 3) dX10_frees_73 rfl rfl ?_
      refine ez_abs dX10_frees_74 xmX10_287 (Nat.le_of_ble_eq_true rfl) ?_
      refine ez_topE (y := z_ab ls) rfl ?_
      refine ez_icmp_ge (tgt := 86) dX10_frees_77 (by decide) (fun c7 => ?_) (fun c7 => ?_)
      · skip
        refine ez_iinc (v := (nI (k + 1))) (l' := [(4, .int ((nI (k + 1)))), (5, .int (zpo T (nI k))), (3, .int ls), (2, .int bb), (1, .int (zst T T.x)), (0, .ref 0)]) dX10_frees_86 rfl (nI_1 _) (by decide) rfl ?_
        refine ez_goto (tgt := 30) dX10_frees_89 (by decide) ?_
        refine ez_sub (l' := [(4, .int ((nI (k + 1)))), (3, .int ls), (2, .int bb), (1, .int (zst T T.x)), (0, .ref 0)]) [0, 2, 3, 4, 5] rfl ?_
        exact ez_eq (l2 := [(4, .int (nI (k + 1))), (3, .int ls), (2, .int bb), (1, .int (zst T T.x)), (0, .ref 0)]) rfl rfl rfl rfl (ih (bb, ls) (Or.inr ⟨by omega, by rcases hin with ⟨e, e2⟩ | ⟨e, e2, e3⟩; exact absurd (by rw [← e2]; exact c7) (z_tr0 (zpo_rg T _)); obtain ⟨j, rfl⟩ : ∃ j, k = j + 1 := ⟨k - 1, by omega⟩; exact ⟨by rw [show j + 1 + 1 - 1 = j + 1 from rfl, a_frees, b_frees]; rw [show j + 1 - 1 = j from rfl] at e2; rw [← e2, if_pos (by rw [← e3]; exact c7)], e3⟩⟩))
      · skip
        refine ez_iload (i := 5) dX10_frees_80 rfl ?_
        refine ez_istore_n (l' := [(3, .int (zpo T (nI k))), (5, .int (zpo T (nI k))), (4, .int (nI k)), (2, .int bb), (1, .int (zst T T.x)), (0, .ref 0)]) dX10_frees_82 rfl (by decide) rfl ?_
        refine ez_iload (i := 4) dX10_frees_83 rfl ?_
        refine ez_istore_n (l' := [(2, .int (nI k)), (3, .int (zpo T (nI k))), (5, .int (zpo T (nI k))), (4, .int (nI k)), (1, .int (zst T T.x)), (0, .ref 0)]) dX10_frees_85 rfl (by decide) rfl ?_
        refine ez_iinc (v := (nI (k + 1))) (l' := [(4, .int ((nI (k + 1)))), (2, .int (nI k)), (3, .int (zpo T (nI k))), (5, .int (zpo T (nI k))), (1, .int (zst T T.x)), (0, .ref 0)]) dX10_frees_86 rfl (nI_1 _) (by decide) rfl ?_
        refine ez_goto (tgt := 30) dX10_frees_89 (by decide) ?_
        refine ez_sub (l' := [(4, .int ((nI (k + 1)))), (3, .int (zpo T (nI k))), (2, .int (nI k)), (1, .int (zst T T.x)), (0, .ref 0)]) [0, 2, 1, 4, 5] rfl ?_
        exact ez_eq (l2 := [(4, .int (nI (k + 1))), (3, .int (zpo T (nI k))), (2, .int (nI k)), (1, .int (zst T T.x)), (0, .ref 0)]) rfl rfl rfl rfl (ih (nI k, zpo T (nI k)) (Or.inr ⟨by omega, by rcases hin with ⟨e, e2⟩ | ⟨e, e2, e3⟩; subst e; rfl; obtain ⟨j, rfl⟩ : ∃ j, k = j + 1 := ⟨k - 1, by omega⟩; rw [show j + 1 + 1 - 1 = j + 1 from rfl, a_frees, b_frees]; rw [show j + 1 - 1 = j from rfl] at e2; rw [← e2, if_neg (by rw [← e3]; exact c7)], rfl⟩))
    · rintro ⟨bb, ls⟩ hin
      have hin : (T.c = 0 ∧ ls = 21 ∨ 0 < T.c ∧ bb = a_frees T (T.c - 1) ∧ ls = zpo T bb) := hin
      show ez_P _ _ _ _ _ _ 30 [(4, .int (nI T.c)), (3, .int ls), (2, .int bb), (1, .int (zst T T.x)), (0, .ref 0)] [] (n, sl, kd, I2, L, Rf) _
      refine ez_iload (i := 4) dX10_frees_30 rfl ?_
      refine ez_aload_n (i := 0) dX10_frees_32 rfl rfl ?_
      refine ez_getR dX10_frees_33 flX10_33 (hF.lt (by decide)) (hF.kc (by decide) rfl) (hF.pt 21 rfl) ?_
      refine ez_getI dX10_frees_36 flX10_126 (hF.lt (by decide)) (hF.kc (by decide) rfl) ?_
      refine ez_topE (y := nI T.c) hK5.C.sh.cr ?_
      refine ez_icmp_ge (tgt := 92) dX10_frees_39 (by decide) (fun c8 => ?_) (fun c8 => absurd (nI_le (Nat.le_refl _) (by omega)) c8)
      refine ez_aload_n (i := 0) dX10_frees_92 rfl rfl ?_
      refine ez_getR dX10_frees_93 flX10_19 (hF.lt (by decide)) (hF.kc (by decide) rfl) (hF.pt 3 rfl) ?_
      refine ez_bipush (v := 100) dX10_frees_96 (by decide) ?_
      refine ez_iload_n (i := 3) dX10_frees_98 rfl rfl ?_
      refine ez_iadd dX10_frees_99 ?_
      refine ez_bipush (v := 100) dX10_frees_100 (by decide) ?_
      refine ez_aload_n (i := 0) dX10_frees_102 rfl rfl ?_
      refine ez_iload_n (i := 1) dX10_frees_103 rfl rfl ?_
      refine ez_callV (M1 := mX10_pullByBallast) (rest := [.int 100, .int (100 + ls), .ref 3]) dX10_frees_104 mlX10_294 mvX10_pullByBallast rfl (hF.lt (by decide)) (hF.kc (by decide) rfl) (Nat.le_of_ble_eq_true rfl) rfl (k_pbb (T := T) (I := I2) (L := L) (d + 39) hK5.C hO hH (zst T T.x)) eb_rok ?_
      rintro _ _ ⟨rfl, rfl⟩
      show ez_P _ _ _ _ _ _ 107 [(4, .int (nI T.c)), (3, .int ls), (2, .int bb), (1, .int (zst T T.x)), (0, .ref 0)] (.int (z_pull (zst T T.x) (zhw T T.x) (T.x 21)) :: [.int 100, .int (100 + ls), .ref 3]) _ _
      refine ez_topE (y := zpl T T.x) rfl ?_
      refine ez_iadd dX10_frees_107 ?_
      refine ez_callV (M1 := mX4_tell_) (rest := []) dX10_frees_108 mlX10_204 mvX4_tell_ rfl (hF.lt (by decide)) (hF.kc (by decide) rfl) (Nat.le_of_ble_eq_true rfl) rfl (y_X4_tell_ (I := I2) (L := L) (d + 58) hF (100 + ls) (100 + (zpl T T.x))) z_tok ?_
      rintro _ _ ⟨rfl, I9, L10, rfl, hr11, ho12⟩
      show ez_P _ _ _ _ _ _ 111 [(4, .int (nI T.c)), (3, .int ls), (2, .int bb), (1, .int (zst T T.x)), (0, .ref 0)] [] (n, sl, kd, I9, L10, Rf) _
      have hK13 : zK n kd I L Rf I I9 L10 Rf (T.w_rw [(100 + ls).toInt64, (100 + (zpl T T.x)).toInt64]) none none true := by exact hK5.tell hr11 ho12
      refine ez_iload_n (i := 2) dX10_frees_111 rfl rfl ?_
      refine ez_iret dX10_frees_112 rfl rfl ?_
      obtain ⟨e2, e3⟩ : bb = a_frees T (T.c - 1) ∧ ls = zpo T bb := by rcases hin with ⟨e, _⟩ | ⟨_, e⟩; exact absurd e hc0; exact e
      rw [show s_frees T = (bb, T.w_rw [(100 + ls).toInt64, (100 + zpl T T.x).toInt64]) from by unfold s_frees; rw [if_neg hc0, ← e2, ← e3]]
      exact hK13.end
  · skip
    refine ez_bipush (v := (-2)) dX10_frees_10 (by decide) ?_
    refine ez_iret dX10_frees_12 rfl rfl ?_
    rw [show s_frees T = (-2, T) from by unfold s_frees; rw [if_pos (nI_inj0 (Classical.not_not.mp c1) (by omega))]]
    exact hK0.end
theorem c_bears {n : Nat} {sl : Nat × Nat} {kd : Nat → Nat × Nat} {I : Nat → Nat → Int32} {L : Nat → Nat → Int64} {Rf : Nat → Nat → Option Nat} (d : Nat) {T : zT} {H : Nat} (hC : zC n kd I L Rf T) (hO : zOk H T) (hH : H ≤ 1000000000) (f : Nat) (B : Nat → Int32) : ez_Q (f + 100) B f (fun _ => True) mX10_bears (d + 60) [.ref 0] (n, sl, kd, I, L, Rf) (zpC n sl kd I L Rf (some (.int (s_bears T).1)) (s_bears T).2) := by
  have hF := hC.F; have hc7 := hO.c
  have hK0 : zK n kd I L Rf I I L Rf T none none false := zK.start hC
  refine ez_meth pn_X.2.2.2.2.2.2.2.2.2.2.1 (Nat.le_of_ble_eq_true rfl) ?_
  show ez_P _ _ _ _ _ _ 0 [(0, .ref 0)] [] (n, sl, kd, I, L, Rf) _
  refine ez_aload_n (i := 0) dX10_bears_0 rfl rfl ?_
  refine ez_getR dX10_bears_1 flX10_26 (hF.lt (by decide)) (hF.kc (by decide) rfl) (hF.pt 4 rfl) ?_
  refine ez_aload_n (i := 0) dX10_bears_4 rfl rfl ?_
  refine ez_getR dX10_bears_5 flX10_33 (hF.lt (by decide)) (hF.kc (by decide) rfl) (hF.pt 21 rfl) ?_
  refine ez_callVm (M1 := mX6_ballast) (rest := []) dX10_bears_8 mlX10_290 mvX6_ballast rfl (hF.lt (by decide)) (hF.kc (by decide) rfl) (Nat.le_of_ble_eq_true rfl) rfl (k_ballast (T := T) (I := I) (L := L) (d + 54) hK0.C hO (j := 21) (by decide) hK0.C.sh hO.x (by omega) (f + 99) _) eb_rok ?_
  rintro _ _ C1 _ ⟨rfl, rfl⟩
  show ez_P _ _ _ _ _ _ 11 [(0, .ref 0)] (.int (zst T T.x) :: []) (n, sl, kd, I, L, Rf) _
  refine ez_istore_n (l' := [(1, .int (zst T T.x)), (0, .ref 0)]) dX10_bears_11 rfl (by decide) rfl ?_
  refine ez_iload_n (i := 1) dX10_bears_12 rfl rfl ?_
  refine ez_bipush (v := 9) dX10_bears_13 (by decide) ?_
  refine ez_aload_n (i := 0) dX10_bears_15 rfl rfl ?_
  refine ez_getR dX10_bears_16 flX10_33 (hF.lt (by decide)) (hF.kc (by decide) rfl) (hF.pt 21 rfl) ?_
  refine ez_getI dX10_bears_19 flX10_272 (hF.lt (by decide)) (hF.kc (by decide) rfl) ?_
  refine ez_topE (y := T.x 21) hK0.C.sh.s ?_
  refine ez_callS (M1 := mX10_pullOf) (rest := []) dX10_bears_22 mlX10_275 msX10_pullOf rfl (Nat.le_of_ble_eq_true rfl) rfl (zq_r (q_X10_pullOf (d + 58) (zst T T.x) 9 (T.x 21)) (n, sl, kd, I, L, Rf)) eb_rok ?_
  rintro _ _ ⟨rfl, rfl⟩
  show ez_P _ _ _ _ _ _ 25 [(1, .int (zst T T.x)), (0, .ref 0)] (.int (z_pull (zst T T.x) 9 (T.x 21)) :: []) _ _
  refine ez_istore_n (l' := [(2, .int (z_pull (zst T T.x) 9 (T.x 21))), (1, .int (zst T T.x)), (0, .ref 0)]) dX10_bears_25 rfl (by decide) rfl ?_
  refine ez_bipush (v := 9) dX10_bears_26 (by decide) ?_
  refine ez_istore_n (l' := [(3, .int 9), (2, .int (z_pull (zst T T.x) 9 (T.x 21))), (1, .int (zst T T.x)), (0, .ref 0)]) dX10_bears_28 rfl (by decide) rfl ?_
  refine ez_eq (l2 := [(3, .int ((9 - nI 0))), (2, .int (z_pull (zst T T.x) 9 (T.x 21))), (1, .int (zst T T.x)), (0, .ref 0)]) rfl (by rw [show (9 - nI 0 : Int32) = 9 from by decide]) rfl rfl ?_
  refine ez_eq (l2 := [(3, .int ((9 - nI 0))), (2, .int (z_pull (zst T T.x) 9 (T.x 21))), (1, .int (zst T T.x)), (0, .ref 0)]) (σ2 := (n, sl, kd, I, L, Rf)) rfl rfl rfl rfl ?_
  refine ez_for 10 (fun k (a : Unit) => ([(3, .int ((9 - nI k))), (2, .int (z_pull (zst T T.x) 9 (T.x 21))), (1, .int (zst T T.x)), (0, .ref 0)], (n, sl, kd, I, L, Rf))) (fun k a => zfd (p_bears T) (10 - k) k = zfd (p_bears T) 10 0) ?_ ?_ 10 0 () (by omega) rfl
  · rintro k _ hk hin ih
    have hin : zfd (p_bears T) (10 - k) k = zfd (p_bears T) 10 0 := hin
    show ez_P _ _ _ _ _ _ 29 [(3, .int ((9 - nI k))), (2, .int (z_pull (zst T T.x) 9 (T.x 21))), (1, .int (zst T T.x)), (0, .ref 0)] [] (n, sl, kd, I, L, Rf) _
    refine ez_iload_n (i := 3) dX10_bears_29 rfl rfl ?_
    refine ez_if_lt (tgt := 78) dX10_bears_30 (by decide) (fun c2 => absurd c2 (z_9k k hk)) (fun c2 => ?_)
    refine ez_iload_n (i := 1) dX10_bears_33 rfl rfl ?_
    refine ez_iload_n (i := 3) dX10_bears_34 rfl rfl ?_
    refine ez_aload_n (i := 0) dX10_bears_35 rfl rfl ?_
    refine ez_getR dX10_bears_36 flX10_33 (hF.lt (by decide)) (hF.kc (by decide) rfl) (hF.pt 21 rfl) ?_
    refine ez_getI dX10_bears_39 flX10_272 (hF.lt (by decide)) (hF.kc (by decide) rfl) ?_
    refine ez_topE (y := T.x 21) hK0.C.sh.s ?_
    refine ez_callS (M1 := mX10_pullOf) (rest := []) dX10_bears_42 mlX10_275 msX10_pullOf rfl (Nat.le_of_ble_eq_true rfl) rfl (zq_r (q_X10_pullOf (d + 58) (zst T T.x) (9 - nI k) (T.x 21)) (n, sl, kd, I, L, Rf)) eb_rok ?_
    rintro _ _ ⟨rfl, rfl⟩
    show ez_P _ _ _ _ _ _ 45 [(3, .int ((9 - nI k))), (2, .int (z_pull (zst T T.x) 9 (T.x 21))), (1, .int (zst T T.x)), (0, .ref 0)] (.int (z_pull (zst T T.x) (9 - nI k) (T.x 21)) :: []) _ _
    refine ez_istore (l' := [(4, .int (z_pull (zst T T.x) (9 - nI k) (T.x 21))), (3, .int ((9 - nI k))), (2, .int (z_pull (zst T T.x) 9 (T.x 21))), (1, .int (zst T T.x)), (0, .ref 0)]) dX10_bears_45 (by decide) rfl ?_
    refine ez_iload (i := 4) dX10_bears_47 rfl ?_
    refine ez_bipush (v := 15) dX10_bears_49 (by decide) ?_
    refine ez_icmp_ge (tgt := 72) dX10_bears_51 (by decide) (fun c3 => ?_) (fun c3 => ?_)
    · skip
      refine ez_iinc (v := (9 - nI (k + 1))) (l' := [(3, .int ((9 - nI (k + 1)))), (4, .int (z_pull (zst T T.x) (9 - nI k) (T.x 21))), (2, .int (z_pull (zst T T.x) 9 (T.x 21))), (1, .int (zst T T.x)), (0, .ref 0)]) dX10_bears_72 rfl (z_cm _ _) (by decide) rfl ?_
      refine ez_goto (tgt := 29) dX10_bears_75 (by decide) ?_
      refine ez_sub (l' := [(3, .int ((9 - nI (k + 1)))), (2, .int (z_pull (zst T T.x) 9 (T.x 21))), (1, .int (zst T T.x)), (0, .ref 0)]) [0, 2, 3, 4] rfl ?_
      exact ez_eq (l2 := [(3, .int ((9 - nI (k + 1)))), (2, .int (z_pull (zst T T.x) 9 (T.x 21))), (1, .int (zst T T.x)), (0, .ref 0)]) rfl rfl rfl rfl (ih () (zfd_step hin hk (by unfold p_bears; simp only [decide_eq_true_eq]; exact Int32.not_lt.mpr c3)))
    · skip
      refine ez_aload_n (i := 0) dX10_bears_54 rfl rfl ?_
      refine ez_getR dX10_bears_55 flX10_19 (hF.lt (by decide)) (hF.kc (by decide) rfl) (hF.pt 3 rfl) ?_
      refine ez_bipush (v := 100) dX10_bears_58 (by decide) ?_
      refine ez_iload (i := 4) dX10_bears_60 rfl ?_
      refine ez_iadd dX10_bears_62 ?_
      refine ez_bipush (v := 100) dX10_bears_63 (by decide) ?_
      refine ez_iload_n (i := 2) dX10_bears_65 rfl rfl ?_
      refine ez_iadd dX10_bears_66 ?_
      refine ez_callV (M1 := mX4_tell_) (rest := []) dX10_bears_67 mlX10_204 mvX4_tell_ rfl (hF.lt (by decide)) (hF.kc (by decide) rfl) (Nat.le_of_ble_eq_true rfl) rfl (y_X4_tell_ (I := I) (L := L) (d + 58) hF (100 + (z_pull (zst T T.x) (9 - nI k) (T.x 21))) (100 + (z_pull (zst T T.x) 9 (T.x 21)))) z_tok ?_
      rintro _ _ ⟨rfl, I4, L5, rfl, hr6, ho7⟩
      show ez_P _ _ _ _ _ _ 70 [(4, .int (z_pull (zst T T.x) (9 - nI k) (T.x 21))), (3, .int ((9 - nI k))), (2, .int (z_pull (zst T T.x) 9 (T.x 21))), (1, .int (zst T T.x)), (0, .ref 0)] [] (n, sl, kd, I4, L5, Rf) _
      have hK8 : zK n kd I L Rf I I4 L5 Rf (T.w_rw [(100 + (z_pull (zst T T.x) (9 - nI k) (T.x 21))).toInt64, (100 + (z_pull (zst T T.x) 9 (T.x 21))).toInt64]) none none false := by exact hK0.tell hr6 ho7
      refine ez_iload_n (i := 3) dX10_bears_70 rfl rfl ?_
      refine ez_iret dX10_bears_71 rfl rfl ?_
      rw [show s_bears T = (9 - nI k, T.w_rw [(100 + z_pull (zst T T.x) (9 - nI k) (T.x 21)).toInt64, (100 + z_pull (zst T T.x) 9 (T.x 21)).toInt64]) from by unfold s_bears; rw [zfd_hit hin hk (by unfold p_bears; simp only [decide_eq_true_eq]; exact Int32.not_le.mp c3)]]
      exact hK8.end
  · rintro _ hin
    have hin : zfd (p_bears T) (10 - 10) 10 = zfd (p_bears T) 10 0 := hin
    show ez_P _ _ _ _ _ _ 29 [(3, .int ((9 - nI 10))), (2, .int (z_pull (zst T T.x) 9 (T.x 21))), (1, .int (zst T T.x)), (0, .ref 0)] [] (n, sl, kd, I, L, Rf) _
    refine ez_iload_n (i := 3) dX10_bears_29 rfl rfl ?_
    refine ez_if_lt (tgt := 78) dX10_bears_30 (by decide) (fun c9 => ?_) (fun c9 => absurd (by decide) c9)
    refine ez_bipush (v := (-2)) dX10_bears_78 (by decide) ?_
    refine ez_iret dX10_bears_80 rfl rfl ?_
    rw [show s_bears T = (-2, T) from by unfold s_bears; rw [zfd_end hin]]
    exact hK0.end
theorem c_parties {n : Nat} {sl : Nat × Nat} {kd : Nat → Nat × Nat} {I : Nat → Nat → Int32} {L : Nat → Nat → Int64} {Rf : Nat → Nat → Option Nat} (d : Nat) {T : zT} {H : Nat} (hC : zC n kd I L Rf T) (hO : zOk H T) (hH : H ≤ 1000000000) : zq mX10_parties (d + 60) [.ref 0] (n, sl, kd, I, L, Rf) (zpC n sl kd I L Rf (some (.int (s_parties T).1)) (s_parties T).2) := by
  have hF := hC.F; have hc7 := hO.c
  have hK0 : zK n kd I L Rf I I L Rf T none none false := zK.start hC
  intro f B
  refine ez_meth pn_X.2.2.2.2.2.2.2.2.2.2.1 (Nat.le_of_ble_eq_true rfl) ?_
  show ez_P _ _ _ _ _ _ 0 [(0, .ref 0)] [] (n, sl, kd, I, L, Rf) _
  refine ez_aload_n (i := 0) dX10_parties_0 rfl rfl ?_
  refine ez_callV (M1 := mX10_weighAll) (rest := []) dX10_parties_1 mlX10_263 mvX10_weighAll rfl (hF.lt (by decide)) (hF.kc (by decide) rfl) (Nat.le_of_ble_eq_true rfl) rfl (k_weighAll (T := T) (I := I) (L := L) (d + 39) hK0.C hO hH) k_wo_ok ?_
  rintro _ _ ⟨rfl, I1, rfl, hl2, hn3⟩
  show ez_P _ _ _ _ _ _ 4 [(0, .ref 0)] [] (n, sl, kd, I1, L, Rf) _
  have hK4 : zK n kd I L Rf I I1 L Rf T none none true := by exact hK0.lod hl2 hn3
  refine ez_aload_n (i := 0) dX10_parties_4 rfl rfl ?_
  refine ez_iconst (v := 1) dX10_parties_5 (by decide) ?_
  refine ez_aload_n (i := 0) dX10_parties_6 rfl rfl ?_
  refine ez_getR dX10_parties_7 flX10_33 (hF.lt (by decide)) (hF.kc (by decide) rfl) (hF.pt 21 rfl) ?_
  refine ez_getI dX10_parties_10 flX10_126 (hF.lt (by decide)) (hF.kc (by decide) rfl) ?_
  refine ez_topE (y := nI T.c) hK4.C.sh.cr ?_
  refine ez_ishl dX10_parties_13 ?_
  refine ez_iconst (v := 1) dX10_parties_14 (by decide) ?_
  refine ez_isub dX10_parties_15 ?_
  refine ez_topE (y := zal T) (zal_k _ (by omega)) ?_
  refine ez_callV (M1 := mX10_loadOf) (rest := []) dX10_parties_16 mlX10_327 mvX10_loadOf rfl (hF.lt (by decide)) (hF.kc (by decide) rfl) (Nat.le_of_ble_eq_true rfl) rfl (k_lof (T := T) (I := I1) (L := L) (d + 39) hK4 hO (zal T)) eb_rok ?_
  rintro _ _ ⟨rfl, rfl⟩
  show ez_P _ _ _ _ _ _ 19 [(0, .ref 0)] (.int (zws T (zal T) T.c) :: []) _ _
  refine ez_istore_n (l' := [(1, .int (zws T (zal T) T.c)), (0, .ref 0)]) dX10_parties_19 rfl (by decide) rfl ?_
  refine ez_iload_n (i := 1) dX10_parties_20 rfl rfl ?_
  refine ez_istore_n (l' := [(2, .int (zws T (zal T) T.c)), (1, .int (zws T (zal T) T.c)), (0, .ref 0)]) dX10_parties_21 rfl (by decide) rfl ?_
  refine ez_iconst (v := 0) dX10_parties_22 (by decide) ?_
  refine ez_istore_n (l' := [(3, .int 0), (2, .int (zws T (zal T) T.c)), (1, .int (zws T (zal T) T.c)), (0, .ref 0)]) dX10_parties_23 rfl (by decide) rfl ?_
  refine ez_iconst (v := 1) dX10_parties_24 (by decide) ?_
  refine ez_istore (l' := [(4, .int 1), (3, .int 0), (2, .int (zws T (zal T) T.c)), (1, .int (zws T (zal T) T.c)), (0, .ref 0)]) dX10_parties_25 (by decide) rfl ?_
  refine ez_eq (l2 := [(4, .int (nI (0 + 1))), (3, .int 0), (2, .int (zws T (zal T) T.c)), (1, .int (zws T (zal T) T.c)), (0, .ref 0)]) (σ2 := (n, sl, kd, I1, L, Rf)) rfl rfl rfl rfl ?_
  refine ez_for (zN T) (fun k (a : Int32 × Int32) => ([(4, .int (nI (k + 1))), (3, .int a.1), (2, .int a.2), (1, .int (zws T (zal T) T.c)), (0, .ref 0)], (n, sl, kd, I1, L, Rf))) (fun k a => a.1 = a_parties T k ∧ a.2 = zdf T a.1) ?_ ?_ (zN T) 0 (0, zws T (zal T) T.c) (by omega) ⟨rfl, zdf_0 hc7⟩
  · rintro k ⟨bb, ls⟩ hk hin ih
    have hin : bb = a_parties T k ∧ ls = zdf T bb := hin
    show ez_P _ _ _ _ _ _ 27 [(4, .int (nI (k + 1))), (3, .int bb), (2, .int ls), (1, .int (zws T (zal T) T.c)), (0, .ref 0)] [] (n, sl, kd, I1, L, Rf) _
    refine ez_iload (i := 4) dX10_parties_27 rfl ?_
    refine ez_iconst (v := 1) dX10_parties_29 (by decide) ?_
    refine ez_aload_n (i := 0) dX10_parties_30 rfl rfl ?_
    refine ez_getR dX10_parties_31 flX10_33 (hF.lt (by decide)) (hF.kc (by decide) rfl) (hF.pt 21 rfl) ?_
    refine ez_getI dX10_parties_34 flX10_126 (hF.lt (by decide)) (hF.kc (by decide) rfl) ?_
    refine ez_topE (y := nI T.c) hK4.C.sh.cr ?_
    refine ez_ishl dX10_parties_37 ?_
    refine ez_topE (y := nI (zN T + 1)) (zsh1 hc7) ?_
    refine ez_icmp_ge (tgt := 74) dX10_parties_38 (by decide) (fun c5 => absurd c5 (nI_ge (by omega) (by have := zN_le hc7; omega))) (fun c5 => ?_)
    refine ez_iload_n (i := 1) dX10_parties_41 rfl rfl ?_
    refine ez_iconst (v := 2) dX10_parties_42 (by decide) ?_
    refine ez_aload_n (i := 0) dX10_parties_43 rfl rfl ?_
    refine ez_iload (i := 4) dX10_parties_44 rfl ?_
    refine ez_callV (M1 := mX10_loadOf) (rest := [.int 2, .int (zws T (zal T) T.c)]) dX10_parties_46 mlX10_327 mvX10_loadOf rfl (hF.lt (by decide)) (hF.kc (by decide) rfl) (Nat.le_of_ble_eq_true rfl) rfl (k_lof (T := T) (I := I1) (L := L) (d + 39) hK4 hO (nI (k + 1))) eb_rok ?_
    rintro _ _ ⟨rfl, rfl⟩
    show ez_P _ _ _ _ _ _ 49 [(4, .int (nI (k + 1))), (3, .int bb), (2, .int ls), (1, .int (zws T (zal T) T.c)), (0, .ref 0)] (.int (zws T (nI (k + 1)) T.c) :: [.int 2, .int (zws T (zal T) T.c)]) _ _
    refine ez_imul dX10_parties_49 ?_
    refine ez_isub dX10_parties_50 ?_
    refine ez_abs dX10_parties_51 xmX10_287 (Nat.le_of_ble_eq_true rfl) ?_
    refine ez_topE (y := zdf T (nI (k + 1))) rfl ?_
    refine ez_istore (l' := [(5, .int (zdf T (nI (k + 1)))), (4, .int (nI (k + 1))), (3, .int bb), (2, .int ls), (1, .int (zws T (zal T) T.c)), (0, .ref 0)]) dX10_parties_54 (by decide) rfl ?_
    refine ez_iload (i := 5) dX10_parties_56 rfl ?_
    refine ez_iload_n (i := 2) dX10_parties_58 rfl rfl ?_
    refine ez_icmp_ge (tgt := 68) dX10_parties_59 (by decide) (fun c6 => ?_) (fun c6 => ?_)
    · skip
      refine ez_iinc (v := (nI (k + 2))) (l' := [(4, .int ((nI (k + 2)))), (5, .int (zdf T (nI (k + 1)))), (3, .int bb), (2, .int ls), (1, .int (zws T (zal T) T.c)), (0, .ref 0)]) dX10_parties_68 rfl (nI_1 _) (by decide) rfl ?_
      refine ez_goto (tgt := 27) dX10_parties_71 (by decide) ?_
      refine ez_sub (l' := [(4, .int ((nI (k + 2)))), (3, .int bb), (2, .int ls), (1, .int (zws T (zal T) T.c)), (0, .ref 0)]) [0, 2, 3, 4, 5] rfl ?_
      exact ez_eq (l2 := [(4, .int (nI (k + 1 + 1))), (3, .int bb), (2, .int ls), (1, .int (zws T (zal T) T.c)), (0, .ref 0)]) rfl rfl rfl rfl (ih (bb, ls) ⟨by rw [a_parties, b_parties, ← hin.1, ← hin.2, if_pos c6], hin.2⟩)
    · skip
      refine ez_iload (i := 5) dX10_parties_62 rfl ?_
      refine ez_istore_n (l' := [(2, .int (zdf T (nI (k + 1)))), (5, .int (zdf T (nI (k + 1)))), (4, .int (nI (k + 1))), (3, .int bb), (1, .int (zws T (zal T) T.c)), (0, .ref 0)]) dX10_parties_64 rfl (by decide) rfl ?_
      refine ez_iload (i := 4) dX10_parties_65 rfl ?_
      refine ez_istore_n (l' := [(3, .int (nI (k + 1))), (2, .int (zdf T (nI (k + 1)))), (5, .int (zdf T (nI (k + 1)))), (4, .int (nI (k + 1))), (1, .int (zws T (zal T) T.c)), (0, .ref 0)]) dX10_parties_67 rfl (by decide) rfl ?_
      refine ez_iinc (v := (nI (k + 2))) (l' := [(4, .int ((nI (k + 2)))), (3, .int (nI (k + 1))), (2, .int (zdf T (nI (k + 1)))), (5, .int (zdf T (nI (k + 1)))), (1, .int (zws T (zal T) T.c)), (0, .ref 0)]) dX10_parties_68 rfl (nI_1 _) (by decide) rfl ?_
      refine ez_goto (tgt := 27) dX10_parties_71 (by decide) ?_
      refine ez_sub (l' := [(4, .int ((nI (k + 2)))), (3, .int (nI (k + 1))), (2, .int (zdf T (nI (k + 1)))), (1, .int (zws T (zal T) T.c)), (0, .ref 0)]) [0, 1, 2, 4, 5] rfl ?_
      exact ez_eq (l2 := [(4, .int (nI (k + 1 + 1))), (3, .int (nI (k + 1))), (2, .int (zdf T (nI (k + 1)))), (1, .int (zws T (zal T) T.c)), (0, .ref 0)]) rfl rfl rfl rfl (ih (nI (k + 1), zdf T (nI (k + 1))) ⟨by rw [a_parties, b_parties, ← hin.1, ← hin.2, if_neg c6], rfl⟩)
  · rintro ⟨bb, ls⟩ hin
    have hin : bb = a_parties T (zN T) ∧ ls = zdf T bb := hin
    show ez_P _ _ _ _ _ _ 27 [(4, .int (nI ((zN T) + 1))), (3, .int bb), (2, .int ls), (1, .int (zws T (zal T) T.c)), (0, .ref 0)] [] (n, sl, kd, I1, L, Rf) _
    refine ez_iload (i := 4) dX10_parties_27 rfl ?_
    refine ez_iconst (v := 1) dX10_parties_29 (by decide) ?_
    refine ez_aload_n (i := 0) dX10_parties_30 rfl rfl ?_
    refine ez_getR dX10_parties_31 flX10_33 (hF.lt (by decide)) (hF.kc (by decide) rfl) (hF.pt 21 rfl) ?_
    refine ez_getI dX10_parties_34 flX10_126 (hF.lt (by decide)) (hF.kc (by decide) rfl) ?_
    refine ez_topE (y := nI T.c) hK4.C.sh.cr ?_
    refine ez_ishl dX10_parties_37 ?_
    refine ez_topE (y := nI (zN T + 1)) (zsh1 hc7) ?_
    refine ez_icmp_ge (tgt := 74) dX10_parties_38 (by decide) (fun c7 => ?_) (fun c7 => absurd (nI_le (by omega) (by have := zN_le hc7; omega)) c7)
    refine ez_aload_n (i := 0) dX10_parties_74 rfl rfl ?_
    refine ez_getR dX10_parties_75 flX10_19 (hF.lt (by decide)) (hF.kc (by decide) rfl) (hF.pt 3 rfl) ?_
    refine ez_iload_n (i := 3) dX10_parties_78 rfl rfl ?_
    refine ez_aload_n (i := 0) dX10_parties_79 rfl rfl ?_
    refine ez_iload_n (i := 3) dX10_parties_80 rfl rfl ?_
    refine ez_callV (M1 := mX10_loadOf) (rest := [.int bb, .ref 3]) dX10_parties_81 mlX10_327 mvX10_loadOf rfl (hF.lt (by decide)) (hF.kc (by decide) rfl) (Nat.le_of_ble_eq_true rfl) rfl (k_lof (T := T) (I := I1) (L := L) (d + 39) hK4 hO bb) eb_rok ?_
    rintro _ _ ⟨rfl, rfl⟩
    show ez_P _ _ _ _ _ _ 84 [(4, .int (nI ((zN T) + 1))), (3, .int bb), (2, .int ls), (1, .int (zws T (zal T) T.c)), (0, .ref 0)] (.int (zws T bb T.c) :: [.int bb, .ref 3]) _ _
    refine ez_callV (M1 := mX4_tell_) (rest := []) dX10_parties_84 mlX10_204 mvX4_tell_ rfl (hF.lt (by decide)) (hF.kc (by decide) rfl) (Nat.le_of_ble_eq_true rfl) rfl (y_X4_tell_ (I := I1) (L := L) (d + 58) hF bb (zws T bb T.c)) z_tok ?_
    rintro _ _ ⟨rfl, I8, L9, rfl, hr10, ho11⟩
    show ez_P _ _ _ _ _ _ 87 [(4, .int (nI ((zN T) + 1))), (3, .int bb), (2, .int ls), (1, .int (zws T (zal T) T.c)), (0, .ref 0)] [] (n, sl, kd, I8, L9, Rf) _
    have hK12 : zK n kd I L Rf I I8 L9 Rf (T.w_rw [bb.toInt64, (zws T bb T.c).toInt64]) none none true := by exact hK4.tell hr10 ho11
    refine ez_iload_n (i := 2) dX10_parties_87 rfl rfl ?_
    refine ez_iret dX10_parties_88 rfl rfl ?_
    rw [show s_parties T = (ls, T.w_rw [bb.toInt64, (zws T bb T.c).toInt64]) from by unfold s_parties; rw [← hin.1, ← hin.2]]
    exact hK12.end
theorem c_just_ok {n : Nat} {sl : Nat × Nat} {kd : Nat → Nat × Nat} {I : Nat → Nat → Int32} {L : Nat → Nat → Int64} {Rf : Nat → Nat → Option Nat} (d : Nat) {T : zT} {H : Nat} (hC : zC n kd I L Rf T) (hO : zOk H T) (hH : H ≤ 1000000000) {v : Int32} (hn : 0 ≤ v ∧ v ≤ 140) : zq mX10_just (d + 60) [.ref 0, .int v] (n, sl, kd, I, L, Rf) (zpC n sl kd I L Rf (some (.int (s_just T v).1)) (s_just T v).2) := by
  have hF := hC.F; have hc7 := hO.c
  have hK0 : zK n kd I L Rf I I L Rf T none none false := zK.start hC
  intro f B
  refine ez_meth pn_X.2.2.2.2.2.2.2.2.2.2.1 (Nat.le_of_ble_eq_true rfl) ?_
  show ez_P _ _ _ _ _ _ 0 [(0, .ref 0), (1, .int v)] [] (n, sl, kd, I, L, Rf) _
  refine ez_iload_n (i := 1) dX10_just_0 rfl rfl ?_
  refine ez_iconst (v := 0) dX10_just_1 (by decide) ?_
  refine ez_sipush (v := 140) dX10_just_2 (by decide) ?_
  refine ez_callS (M1 := mX10_within) (rest := []) dX10_just_5 mlX10_158 msX10_within rfl (Nat.le_of_ble_eq_true rfl) rfl (zq_b1 hn (zq_b (q_X10_within (d + 59) v 0 140) (n, sl, kd, I, L, Rf))) eb_rok ?_
  rintro _ _ ⟨rfl, rfl⟩
  show ez_P _ _ _ _ _ _ 8 [(0, .ref 0), (1, .int v)] (.int 1 :: []) _ _
  refine ez_if_ne (tgt := 13) dX10_just_8 (by decide) (fun c1 => ?_) (fun c1 => absurd (by decide) c1)
  refine ez_aload_n (i := 0) dX10_just_13 rfl rfl ?_
  refine ez_callV (M1 := mX10_weighAll) (rest := []) dX10_just_14 mlX10_263 mvX10_weighAll rfl (hF.lt (by decide)) (hF.kc (by decide) rfl) (Nat.le_of_ble_eq_true rfl) rfl (k_weighAll (T := T) (I := I) (L := L) (d + 39) hK0.C hO hH) k_wo_ok ?_
  rintro _ _ ⟨rfl, I2, rfl, hl3, hn4⟩
  show ez_P _ _ _ _ _ _ 17 [(0, .ref 0), (1, .int v)] [] (n, sl, kd, I2, L, Rf) _
  have hK5 : zK n kd I L Rf I I2 L Rf T none none true := by exact hK0.lod hl3 hn4
  refine ez_bipush (v := 8) dX10_just_17 (by decide) ?_
  refine ez_istore_n (l' := [(2, .int 8), (0, .ref 0), (1, .int v)]) dX10_just_19 rfl (by decide) rfl ?_
  refine ez_iconst (v := 0) dX10_just_20 (by decide) ?_
  refine ez_istore_n (l' := [(3, .int 0), (2, .int 8), (0, .ref 0), (1, .int v)]) dX10_just_21 rfl (by decide) rfl ?_
  refine ez_iconst (v := 0) dX10_just_22 (by decide) ?_
  refine ez_istore (l' := [(4, .int 0), (3, .int 0), (2, .int 8), (0, .ref 0), (1, .int v)]) dX10_just_23 (by decide) rfl ?_
  refine ez_iconst (v := 0) dX10_just_25 (by decide) ?_
  refine ez_istore (l' := [(5, .int 0), (4, .int 0), (3, .int 0), (2, .int 8), (0, .ref 0), (1, .int v)]) dX10_just_26 (by decide) rfl ?_
  refine ez_eq (l2 := [(5, .int (nI 0)), (4, .int 0), (3, .int 0), (2, .int 8), (0, .ref 0), (1, .int v)]) (σ2 := (n, sl, kd, I2, L, Rf)) rfl rfl rfl rfl ?_
  refine ez_for (zN T + 1) (fun k (a : Int32 × Int32 × Int32) => ([(5, .int (nI k)), (4, .int a.2.2), (3, .int a.2.1), (2, .int a.1), (0, .ref 0), (1, .int v)], (n, sl, kd, I2, L, Rf))) (fun k a => ∃ m, m ≤ k ∧ a.2.2 = nI m ∧ a.2.2 = (a_just T v k).2 ∧ (m = 0 ∧ (a_just T v k).1 = -1 ∧ a.1 = 8 ∨ 0 < m ∧ (a_just T v k).1 = a.2.1 ∧ a.2.1 ≠ -1 ∧ a.1 = z_bc a.2.1)) ?_ ?_ (zN T + 1) 0 (8, 0, 0) (by omega) ⟨0, by omega, rfl, rfl, Or.inl ⟨rfl, rfl, rfl⟩⟩
  · rintro k ⟨fw, ch, sets⟩ hk hin ih
    have hin : ∃ m, m ≤ k ∧ sets = nI m ∧ sets = (a_just T v k).2 ∧ (m = 0 ∧ (a_just T v k).1 = -1 ∧ fw = 8 ∨ 0 < m ∧ (a_just T v k).1 = ch ∧ ch ≠ -1 ∧ fw = z_bc ch) := hin
    show ez_P _ _ _ _ _ _ 28 [(5, .int (nI k)), (4, .int sets), (3, .int ch), (2, .int fw), (0, .ref 0), (1, .int v)] [] (n, sl, kd, I2, L, Rf) _
    refine ez_iload (i := 5) dX10_just_28 rfl ?_
    refine ez_iconst (v := 1) dX10_just_30 (by decide) ?_
    refine ez_aload_n (i := 0) dX10_just_31 rfl rfl ?_
    refine ez_getR dX10_just_32 flX10_33 (hF.lt (by decide)) (hF.kc (by decide) rfl) (hF.pt 21 rfl) ?_
    refine ez_getI dX10_just_35 flX10_126 (hF.lt (by decide)) (hF.kc (by decide) rfl) ?_
    refine ez_topE (y := nI T.c) hK5.C.sh.cr ?_
    refine ez_ishl dX10_just_38 ?_
    refine ez_topE (y := nI (zN T + 1)) (zsh1 hc7) ?_
    refine ez_icmp_ge (tgt := 79) dX10_just_39 (by decide) (fun c6 => absurd c6 (nI_ge hk (by have := zN_le hc7; omega))) (fun c6 => ?_)
    refine ez_aload_n (i := 0) dX10_just_42 rfl rfl ?_
    refine ez_iload (i := 5) dX10_just_43 rfl ?_
    refine ez_callV (M1 := mX10_loadOf) (rest := []) dX10_just_45 mlX10_327 mvX10_loadOf rfl (hF.lt (by decide)) (hF.kc (by decide) rfl) (Nat.le_of_ble_eq_true rfl) rfl (k_lof (T := T) (I := I2) (L := L) (d + 39) hK5 hO (nI k)) eb_rok ?_
    rintro _ _ ⟨rfl, rfl⟩
    show ez_P _ _ _ _ _ _ 48 [(5, .int (nI k)), (4, .int sets), (3, .int ch), (2, .int fw), (0, .ref 0), (1, .int v)] (.int (zws T (nI k) T.c) :: []) _ _
    refine ez_iload_n (i := 1) dX10_just_48 rfl rfl ?_
    refine ez_icmp_ne (tgt := 73) dX10_just_49 (by decide) (fun c7 => ?_) (fun c7 => ?_)
    · skip
      refine ez_iinc (v := (nI (k + 1))) (l' := [(5, .int ((nI (k + 1)))), (4, .int sets), (3, .int ch), (2, .int fw), (0, .ref 0), (1, .int v)]) dX10_just_73 rfl (nI_1 _) (by decide) rfl ?_
      refine ez_goto (tgt := 28) dX10_just_76 (by decide) ?_
      exact ez_eq (l2 := [(5, .int (nI (k + 1))), (4, .int sets), (3, .int ch), (2, .int fw), (0, .ref 0), (1, .int v)]) rfl rfl rfl rfl (ih (fw, ch, sets) (by obtain ⟨m, h1, h2, h3, h4⟩ := hin; rw [a_just, b_just, if_neg c7]; exact ⟨m, by omega, h2, h3, h4⟩))
    · skip
      refine ez_iinc (v := (sets + 1)) (l' := [(4, .int ((sets + 1))), (5, .int (nI k)), (3, .int ch), (2, .int fw), (0, .ref 0), (1, .int v)]) dX10_just_52 rfl rfl (by decide) rfl ?_
      refine ez_iload (i := 5) dX10_just_55 rfl ?_
      refine ez_callS (M1 := mJ6_bitCount_0f7a4) (rest := []) dX10_just_57 mlX10_330 msJ6_bitCount_0f7a4 rfl (Nat.le_of_ble_eq_true rfl) rfl (zq_r (fun σ => q_J6_bitCount_0f7a4 (σ := σ) (d + 59) (nI k)) (n, sl, kd, I2, L, Rf)) eb_rok ?_
      rintro _ _ ⟨rfl, rfl⟩
      show ez_P _ _ _ _ _ _ 60 [(4, .int ((sets + 1))), (5, .int (nI k)), (3, .int ch), (2, .int fw), (0, .ref 0), (1, .int v)] (.int (z_bc (nI k)) :: []) _ _
      refine ez_iload_n (i := 2) dX10_just_60 rfl rfl ?_
      refine ez_icmp_ge (tgt := 73) dX10_just_61 (by decide) (fun c8 => ?_) (fun c8 => ?_)
      · skip
        refine ez_iinc (v := (nI (k + 1))) (l' := [(5, .int ((nI (k + 1)))), (4, .int ((sets + 1))), (3, .int ch), (2, .int fw), (0, .ref 0), (1, .int v)]) dX10_just_73 rfl (nI_1 _) (by decide) rfl ?_
        refine ez_goto (tgt := 28) dX10_just_76 (by decide) ?_
        exact ez_eq (l2 := [(5, .int (nI (k + 1))), (4, .int ((sets + 1))), (3, .int ch), (2, .int fw), (0, .ref 0), (1, .int v)]) rfl rfl rfl rfl (ih (fw, ch, (sets + 1)) (by obtain ⟨m, h1, h2, h3, h4⟩ := hin; rw [a_just, b_just, if_pos (Classical.not_not.mp c7)]; refine ⟨m + 1, by omega, by rw [h2, nI_1], by rw [h3], Or.inr ⟨by omega, ?_⟩⟩; rcases h4 with ⟨e0, e1, e2⟩ | ⟨e0, e1, e3, e2⟩; exact absurd (by rw [← e2]; exact c8) (z_bc8 k (by have := zN_le hc7; omega)).1; exact ⟨by show (if (a_just T v k).1 = -1 then _ else _) = _; rw [e1, if_neg e3, if_pos (by rw [← e2]; exact c8)], e3, e2⟩))
      · skip
        refine ez_iload (i := 5) dX10_just_64 rfl ?_
        refine ez_callS (M1 := mJ6_bitCount_0f7a4) (rest := []) dX10_just_66 mlX10_330 msJ6_bitCount_0f7a4 rfl (Nat.le_of_ble_eq_true rfl) rfl (zq_r (fun σ => q_J6_bitCount_0f7a4 (σ := σ) (d + 59) (nI k)) (n, sl, kd, I2, L, Rf)) eb_rok ?_
        rintro _ _ ⟨rfl, rfl⟩
        show ez_P _ _ _ _ _ _ 69 [(4, .int ((sets + 1))), (5, .int (nI k)), (3, .int ch), (2, .int fw), (0, .ref 0), (1, .int v)] (.int (z_bc (nI k)) :: []) _ _
        refine ez_istore_n (l' := [(2, .int (z_bc (nI k))), (4, .int ((sets + 1))), (5, .int (nI k)), (3, .int ch), (0, .ref 0), (1, .int v)]) dX10_just_69 rfl (by decide) rfl ?_
        refine ez_iload (i := 5) dX10_just_70 rfl ?_
        refine ez_istore_n (l' := [(3, .int (nI k)), (2, .int (z_bc (nI k))), (4, .int ((sets + 1))), (5, .int (nI k)), (0, .ref 0), (1, .int v)]) dX10_just_72 rfl (by decide) rfl ?_
        refine ez_iinc (v := (nI (k + 1))) (l' := [(5, .int ((nI (k + 1)))), (3, .int (nI k)), (2, .int (z_bc (nI k))), (4, .int ((sets + 1))), (0, .ref 0), (1, .int v)]) dX10_just_73 rfl (nI_1 _) (by decide) rfl ?_
        refine ez_goto (tgt := 28) dX10_just_76 (by decide) ?_
        refine ez_sub (l' := [(5, .int ((nI (k + 1)))), (4, .int ((sets + 1))), (3, .int (nI k)), (2, .int (z_bc (nI k))), (0, .ref 0), (1, .int v)]) [0, 3, 1, 2, 4, 5] rfl ?_
        exact ez_eq (l2 := [(5, .int (nI (k + 1))), (4, .int ((sets + 1))), (3, .int (nI k)), (2, .int (z_bc (nI k))), (0, .ref 0), (1, .int v)]) rfl rfl rfl rfl (ih (z_bc (nI k), nI k, (sets + 1)) (by obtain ⟨m, h1, h2, h3, h4⟩ := hin; rw [a_just, b_just, if_pos (Classical.not_not.mp c7)]; refine ⟨m + 1, by omega, by rw [h2, nI_1], by rw [h3], Or.inr ⟨by omega, ?_⟩⟩; rcases h4 with ⟨e0, e1, e2⟩ | ⟨e0, e1, e3, e2⟩; exact ⟨by show (if (a_just T v k).1 = -1 then _ else _) = _; rw [if_pos e1], (z_bc8 k (by have := zN_le hc7; omega)).2, rfl⟩; exact ⟨by show (if (a_just T v k).1 = -1 then _ else _) = _; rw [e1, if_neg e3, if_neg (by rw [← e2]; exact c8)], (z_bc8 k (by have := zN_le hc7; omega)).2, rfl⟩))
  · rintro ⟨fw, ch, sets⟩ hin
    have hin : ∃ m, m ≤ (zN T + 1) ∧ sets = nI m ∧ sets = (a_just T v (zN T + 1)).2 ∧ (m = 0 ∧ (a_just T v (zN T + 1)).1 = -1 ∧ fw = 8 ∨ 0 < m ∧ (a_just T v (zN T + 1)).1 = ch ∧ ch ≠ -1 ∧ fw = z_bc ch) := hin
    show ez_P _ _ _ _ _ _ 28 [(5, .int (nI (zN T + 1))), (4, .int sets), (3, .int ch), (2, .int fw), (0, .ref 0), (1, .int v)] [] (n, sl, kd, I2, L, Rf) _
    refine ez_iload (i := 5) dX10_just_28 rfl ?_
    refine ez_iconst (v := 1) dX10_just_30 (by decide) ?_
    refine ez_aload_n (i := 0) dX10_just_31 rfl rfl ?_
    refine ez_getR dX10_just_32 flX10_33 (hF.lt (by decide)) (hF.kc (by decide) rfl) (hF.pt 21 rfl) ?_
    refine ez_getI dX10_just_35 flX10_126 (hF.lt (by decide)) (hF.kc (by decide) rfl) ?_
    refine ez_topE (y := nI T.c) hK5.C.sh.cr ?_
    refine ez_ishl dX10_just_38 ?_
    refine ez_topE (y := nI (zN T + 1)) (zsh1 hc7) ?_
    refine ez_icmp_ge (tgt := 79) dX10_just_39 (by decide) (fun c9 => ?_) (fun c9 => absurd (nI_le (Nat.le_refl _) (by have := zN_le hc7; omega)) c9)
    refine ez_iload (i := 4) dX10_just_79 rfl ?_
    refine ez_if_ne (tgt := 87) dX10_just_81 (by decide) (fun c10 => ?_) (fun c10 => ?_)
    · skip
      refine ez_aload_n (i := 0) dX10_just_87 rfl rfl ?_
      refine ez_getR dX10_just_88 flX10_19 (hF.lt (by decide)) (hF.kc (by decide) rfl) (hF.pt 3 rfl) ?_
      refine ez_iload_n (i := 3) dX10_just_91 rfl rfl ?_
      refine ez_iload (i := 4) dX10_just_92 rfl ?_
      refine ez_callV (M1 := mX4_tell_) (rest := []) dX10_just_94 mlX10_204 mvX4_tell_ rfl (hF.lt (by decide)) (hF.kc (by decide) rfl) (Nat.le_of_ble_eq_true rfl) rfl (y_X4_tell_ (I := I2) (L := L) (d + 58) hF ch sets) z_tok ?_
      rintro _ _ ⟨rfl, I11, L12, rfl, hr13, ho14⟩
      show ez_P _ _ _ _ _ _ 97 [(5, .int (nI (zN T + 1))), (4, .int sets), (3, .int ch), (2, .int fw), (0, .ref 0), (1, .int v)] [] (n, sl, kd, I11, L12, Rf) _
      have hK15 : zK n kd I L Rf I I11 L12 Rf (T.w_rw [ch.toInt64, sets.toInt64]) none none true := by exact hK5.tell hr13 ho14
      refine ez_iload_n (i := 2) dX10_just_97 rfl rfl ?_
      refine ez_iret dX10_just_98 rfl rfl ?_
      obtain ⟨m, h1, h2, h3, h4⟩ := hin
      have hm : ¬ m = 0 := fun e => c10 (by rw [h2, e]; rfl)
      obtain ⟨e1, e3, e2⟩ : (a_just T v (zN T + 1)).1 = ch ∧ ch ≠ -1 ∧ fw = z_bc ch := by rcases h4 with ⟨e, _⟩ | ⟨_, e⟩; exact absurd e hm; exact e
      rw [show s_just T v = (fw, T.w_rw [ch.toInt64, sets.toInt64]) from by unfold s_just; rw [if_pos hn, e1, if_neg e3, ← h3, e2]]
      exact hK15.end
    · skip
      refine ez_bipush (v := (-2)) dX10_just_84 (by decide) ?_
      refine ez_iret dX10_just_86 rfl rfl ?_
      obtain ⟨m, h1, h2, h3, h4⟩ := hin
      have hz7 := zN_le hc7
      have hm : m = 0 := nI_inj0 (h2.symm.trans (Classical.not_not.mp c10)) (by omega)
      have e1 : (a_just T v (zN T + 1)).1 = -1 := by rcases h4 with ⟨_, e, _⟩ | ⟨e, _⟩; exact e; omega
      rw [show s_just T v = (-2, T) from by unfold s_just; rw [if_pos hn, if_pos e1]]
      exact hK5.end
theorem c_just_no {n : Nat} {sl : Nat × Nat} {kd : Nat → Nat × Nat} {I : Nat → Nat → Int32} {L : Nat → Nat → Int64} {Rf : Nat → Nat → Option Nat} (d : Nat) {T : zT} {H : Nat} (hC : zC n kd I L Rf T) (hO : zOk H T) (hH : H ≤ 1000000000) {v : Int32} (hn : ¬ (0 ≤ v ∧ v ≤ 140)) : zq mX10_just (d + 60) [.ref 0, .int v] (n, sl, kd, I, L, Rf) (zpC n sl kd I L Rf (some (.int (s_just T v).1)) (s_just T v).2) := by
  have hF := hC.F; have hc7 := hO.c
  have hK0 : zK n kd I L Rf I I L Rf T none none false := zK.start hC
  have hsp : s_just T v = ((-1), T) := (by unfold s_just; rw [if_neg hn])
  rw [hsp]
  intro f B
  refine ez_meth pn_X.2.2.2.2.2.2.2.2.2.2.1 (Nat.le_of_ble_eq_true rfl) ?_
  show ez_P _ _ _ _ _ _ 0 [(0, .ref 0), (1, .int v)] [] (n, sl, kd, I, L, Rf) _
  refine ez_iload_n (i := 1) dX10_just_0 rfl rfl ?_
  refine ez_iconst (v := 0) dX10_just_1 (by decide) ?_
  refine ez_sipush (v := 140) dX10_just_2 (by decide) ?_
  refine ez_callS (M1 := mX10_within) (rest := []) dX10_just_5 mlX10_158 msX10_within rfl (Nat.le_of_ble_eq_true rfl) rfl (zq_b0 hn (zq_b (q_X10_within (d + 59) v 0 140) (n, sl, kd, I, L, Rf))) eb_rok ?_
  rintro _ _ ⟨rfl, rfl⟩
  show ez_P _ _ _ _ _ _ 8 [(0, .ref 0), (1, .int v)] (.int 0 :: []) _ _
  refine ez_if_ne (tgt := 13) dX10_just_8 (by decide) (fun c1 => absurd c1 (by decide)) (fun c1 => ?_)
  refine ez_iconst (v := (-1)) dX10_just_11 (by decide) ?_
  refine ez_iret dX10_just_12 rfl rfl ?_
  exact hK0.end
theorem c_just {n : Nat} {sl : Nat × Nat} {kd : Nat → Nat × Nat} {I : Nat → Nat → Int32} {L : Nat → Nat → Int64} {Rf : Nat → Nat → Option Nat} (d : Nat) {T : zT} {H : Nat} (hC : zC n kd I L Rf T) (hO : zOk H T) (hH : H ≤ 1000000000) (v : Int32) : zq mX10_just (d + 60) [.ref 0, .int v] (n, sl, kd, I, L, Rf) (zpC n sl kd I L Rf (some (.int (s_just T v).1)) (s_just T v).2) := by
  by_cases hn : 0 ≤ v ∧ v ≤ 140
  · exact c_just_ok d hC hO hH hn
  · exact c_just_no d hC hO hH hn
theorem c_moment {n : Nat} {sl : Nat × Nat} {kd : Nat → Nat × Nat} {I : Nat → Nat → Int32} {L : Nat → Nat → Int64} {Rf : Nat → Nat → Option Nat} (d : Nat) {T : zT} {H : Nat} (hC : zC n kd I L Rf T) (hO : zOk H T) (hH : H ≤ 1000000000) : zq mX10_moment (d + 60) [.ref 0] (n, sl, kd, I, L, Rf) (zpC n sl kd I L Rf (some (.int (s_moment T).1)) (s_moment T).2) := by
  have hF := hC.F; have hc7 := hO.c
  have hK0 : zK n kd I L Rf I I L Rf T none none false := zK.start hC
  intro f B
  refine ez_meth pn_X.2.2.2.2.2.2.2.2.2.2.1 (Nat.le_of_ble_eq_true rfl) ?_
  show ez_P _ _ _ _ _ _ 0 [(0, .ref 0)] [] (n, sl, kd, I, L, Rf) _
  refine ez_aload_n (i := 0) dX10_moment_0 rfl rfl ?_
  refine ez_callV (M1 := mX10_weighAll) (rest := []) dX10_moment_1 mlX10_263 mvX10_weighAll rfl (hF.lt (by decide)) (hF.kc (by decide) rfl) (Nat.le_of_ble_eq_true rfl) rfl (k_weighAll (T := T) (I := I) (L := L) (d + 39) hK0.C hO hH) k_wo_ok ?_
  rintro _ _ ⟨rfl, I1, rfl, hl2, hn3⟩
  show ez_P _ _ _ _ _ _ 4 [(0, .ref 0)] [] (n, sl, kd, I1, L, Rf) _
  have hK4 : zK n kd I L Rf I I1 L Rf T none none true := by exact hK0.lod hl2 hn3
  refine ez_iconst (v := 0) dX10_moment_4 (by decide) ?_
  refine ez_istore_n (l' := [(1, .int 0), (0, .ref 0)]) dX10_moment_5 rfl (by decide) rfl ?_
  refine ez_iconst (v := 0) dX10_moment_6 (by decide) ?_
  refine ez_istore_n (l' := [(2, .int 0), (1, .int 0), (0, .ref 0)]) dX10_moment_7 rfl (by decide) rfl ?_
  refine ez_iconst (v := 0) dX10_moment_8 (by decide) ?_
  refine ez_istore_n (l' := [(3, .int 0), (2, .int 0), (1, .int 0), (0, .ref 0)]) dX10_moment_9 rfl (by decide) rfl ?_
  refine ez_eq (l2 := [(3, .int (nI 0)), (2, .int 0), (1, .int 0), (0, .ref 0)]) (σ2 := (n, sl, kd, I1, L, Rf)) rfl rfl rfl rfl ?_
  refine ez_for T.c (fun k (a : Int32 × Int32) => ([(3, .int (nI k)), (2, .int a.2), (1, .int a.1), (0, .ref 0)], (n, sl, kd, I1, L, Rf))) (fun k a => (a.1, a.2) = a_moment T k) ?_ ?_ T.c 0 (0, 0) (by omega) rfl
  · rintro k ⟨st, lb⟩ hk hac ih
    have hac : (st, lb) = a_moment T k := hac
    show ez_P _ _ _ _ _ _ 10 [(3, .int (nI k)), (2, .int lb), (1, .int st), (0, .ref 0)] [] (n, sl, kd, I1, L, Rf) _
    refine ez_iload_n (i := 3) dX10_moment_10 rfl rfl ?_
    refine ez_aload_n (i := 0) dX10_moment_11 rfl rfl ?_
    refine ez_getR dX10_moment_12 flX10_33 (hF.lt (by decide)) (hF.kc (by decide) rfl) (hF.pt 21 rfl) ?_
    refine ez_getI dX10_moment_15 flX10_126 (hF.lt (by decide)) (hF.kc (by decide) rfl) ?_
    refine ez_topE (y := nI T.c) hK4.C.sh.cr ?_
    refine ez_icmp_ge (tgt := 64) dX10_moment_18 (by decide) (fun c5 => absurd c5 (nI_ge hk (by omega))) (fun c5 => ?_)
    refine ez_aload_n (i := 0) dX10_moment_21 rfl rfl ?_
    refine ez_getR dX10_moment_22 flX10_91 (hF.lt (by decide)) (hF.kc (by decide) rfl) (hF.pt 103 rfl) ?_
    refine ez_iload_n (i := 3) dX10_moment_25 rfl rfl ?_
    refine ez_iaN (k := k) dX10_moment_26 (hF.lt (by decide)) (hF.ka (by decide) rfl) (by omega) (by decide) ?_
    refine ez_topE (y := zwt T T.x k) (hK4.lo rfl _ (by omega)) ?_
    refine ez_aload_n (i := 0) dX10_moment_27 rfl rfl ?_
    refine ez_getR dX10_moment_28 flX10_33 (hF.lt (by decide)) (hF.kc (by decide) rfl) (hF.pt 21 rfl) ?_
    refine ez_getR dX10_moment_31 flX10_171 (hF.lt (by decide)) (hF.kc (by decide) rfl) (hF.pt 20 rfl) ?_
    refine ez_iload_n (i := 3) dX10_moment_34 rfl rfl ?_
    refine ez_iaN (k := k) dX10_moment_35 (hF.lt (by decide)) (hF.ka (by decide) rfl) (by omega) (by decide) ?_
    refine ez_topE (y := T.x (14 + k)) (hK4.C.sh.p _ (by omega)) ?_
    refine ez_imul dX10_moment_36 ?_
    refine ez_istore (l' := [(4, .int ((zwt T T.x k) * (T.x (14 + k)))), (3, .int (nI k)), (2, .int lb), (1, .int st), (0, .ref 0)]) dX10_moment_37 (by decide) rfl ?_
    refine ez_iload_n (i := 1) dX10_moment_39 rfl rfl ?_
    refine ez_iload (i := 4) dX10_moment_40 rfl ?_
    refine ez_iconst (v := 0) dX10_moment_42 (by decide) ?_
    refine ez_max dX10_moment_43 xmX10_247 (Nat.le_of_ble_eq_true rfl) ?_
    refine ez_topE (y := if 0 < zwt T T.x k * T.x (14 + k) then zwt T T.x k * T.x (14 + k) else 0) (z_mx0 _) ?_
    refine ez_iadd dX10_moment_46 ?_
    refine ez_istore_n (l' := [(1, .int (st + (if 0 < zwt T T.x k * T.x (14 + k) then zwt T T.x k * T.x (14 + k) else 0))), (4, .int ((zwt T T.x k) * (T.x (14 + k)))), (3, .int (nI k)), (2, .int lb), (0, .ref 0)]) dX10_moment_47 rfl (by decide) rfl ?_
    refine ez_iload_n (i := 2) dX10_moment_48 rfl rfl ?_
    refine ez_iload (i := 4) dX10_moment_49 rfl ?_
    refine ez_ineg dX10_moment_51 ?_
    refine ez_iconst (v := 0) dX10_moment_52 (by decide) ?_
    refine ez_max dX10_moment_53 xmX10_247 (Nat.le_of_ble_eq_true rfl) ?_
    refine ez_topE (y := if 0 < -(zwt T T.x k * T.x (14 + k)) then -(zwt T T.x k * T.x (14 + k)) else 0) (z_mx0 _) ?_
    refine ez_iadd dX10_moment_56 ?_
    refine ez_istore_n (l' := [(2, .int (lb + (if 0 < -(zwt T T.x k * T.x (14 + k)) then -(zwt T T.x k * T.x (14 + k)) else 0))), (1, .int (st + (if 0 < zwt T T.x k * T.x (14 + k) then zwt T T.x k * T.x (14 + k) else 0))), (4, .int ((zwt T T.x k) * (T.x (14 + k)))), (3, .int (nI k)), (0, .ref 0)]) dX10_moment_57 rfl (by decide) rfl ?_
    refine ez_iinc (v := (nI (k + 1))) (l' := [(3, .int ((nI (k + 1)))), (2, .int (lb + (if 0 < -(zwt T T.x k * T.x (14 + k)) then -(zwt T T.x k * T.x (14 + k)) else 0))), (1, .int (st + (if 0 < zwt T T.x k * T.x (14 + k) then zwt T T.x k * T.x (14 + k) else 0))), (4, .int ((zwt T T.x k) * (T.x (14 + k)))), (0, .ref 0)]) dX10_moment_58 rfl (nI_1 _) (by decide) rfl ?_
    refine ez_goto (tgt := 10) dX10_moment_61 (by decide) ?_
    refine ez_sub (l' := [(3, .int ((nI (k + 1)))), (2, .int (lb + (if 0 < -(zwt T T.x k * T.x (14 + k)) then -(zwt T T.x k * T.x (14 + k)) else 0))), (1, .int (st + (if 0 < zwt T T.x k * T.x (14 + k) then zwt T T.x k * T.x (14 + k) else 0))), (0, .ref 0)]) [0, 1, 2, 4] rfl ?_
    exact ez_eq (l2 := [(3, .int (nI (k + 1))), (2, .int (lb + (if 0 < -(zwt T T.x k * T.x (14 + k)) then -(zwt T T.x k * T.x (14 + k)) else 0))), (1, .int (st + (if 0 < zwt T T.x k * T.x (14 + k) then zwt T T.x k * T.x (14 + k) else 0))), (0, .ref 0)]) rfl rfl rfl rfl (ih (st + (if 0 < zwt T T.x k * T.x (14 + k) then zwt T T.x k * T.x (14 + k) else 0), lb + (if 0 < -(zwt T T.x k * T.x (14 + k)) then -(zwt T T.x k * T.x (14 + k)) else 0)) (by rw [a_moment, ← hac, b_moment]))
  · rintro ⟨st, lb⟩ hac
    have hac : (st, lb) = a_moment T T.c := hac
    show ez_P _ _ _ _ _ _ 10 [(3, .int (nI T.c)), (2, .int lb), (1, .int st), (0, .ref 0)] [] (n, sl, kd, I1, L, Rf) _
    refine ez_iload_n (i := 3) dX10_moment_10 rfl rfl ?_
    refine ez_aload_n (i := 0) dX10_moment_11 rfl rfl ?_
    refine ez_getR dX10_moment_12 flX10_33 (hF.lt (by decide)) (hF.kc (by decide) rfl) (hF.pt 21 rfl) ?_
    refine ez_getI dX10_moment_15 flX10_126 (hF.lt (by decide)) (hF.kc (by decide) rfl) ?_
    refine ez_topE (y := nI T.c) hK4.C.sh.cr ?_
    refine ez_icmp_ge (tgt := 64) dX10_moment_18 (by decide) (fun c6 => ?_) (fun c6 => absurd (nI_le (Nat.le_refl _) (by omega)) c6)
    refine ez_aload_n (i := 0) dX10_moment_64 rfl rfl ?_
    refine ez_getR dX10_moment_65 flX10_26 (hF.lt (by decide)) (hF.kc (by decide) rfl) (hF.pt 4 rfl) ?_
    refine ez_aload_n (i := 0) dX10_moment_68 rfl rfl ?_
    refine ez_getR dX10_moment_69 flX10_33 (hF.lt (by decide)) (hF.kc (by decide) rfl) (hF.pt 21 rfl) ?_
    refine ez_getI dX10_moment_72 flX10_266 (hF.lt (by decide)) (hF.kc (by decide) rfl) ?_
    refine ez_topE (y := T.x 25) hK4.C.sh.h ?_
    refine ez_callV (M1 := mX6_windAt) (rest := []) dX10_moment_75 mlX10_269 mvX6_windAt rfl (hF.lt (by decide)) (hF.kc (by decide) rfl) (Nat.le_of_ble_eq_true rfl) rfl (k_wind (T := T) (I := I1) (L := L) (d + 59) hK4.C hO (x := T.x) hO.x (by omega)) eb_rok ?_
    rintro _ _ ⟨rfl, rfl⟩
    show ez_P _ _ _ _ _ _ 78 [(3, .int (nI T.c)), (2, .int lb), (1, .int st), (0, .ref 0)] (.int (zhw T T.x) :: []) _ _
    refine ez_istore_n (l' := [(3, .int (zhw T T.x)), (2, .int lb), (1, .int st), (0, .ref 0)]) dX10_moment_78 rfl (by decide) rfl ?_
    refine ez_iload_n (i := 1) dX10_moment_79 rfl rfl ?_
    refine ez_iload_n (i := 2) dX10_moment_80 rfl rfl ?_
    refine ez_isub dX10_moment_81 ?_
    refine ez_topE (y := zst T T.x) (by rw [show st = (a_moment T T.c).1 from by rw [← hac], show lb = (a_moment T T.c).2 from by rw [← hac]]; exact a_moment_d hO.x T.c (Nat.le_refl _)) ?_
    refine ez_istore (l' := [(4, .int (zst T T.x)), (3, .int (zhw T T.x)), (2, .int lb), (1, .int st), (0, .ref 0)]) dX10_moment_82 (by decide) rfl ?_
    refine ez_aload_n (i := 0) dX10_moment_84 rfl rfl ?_
    refine ez_getR dX10_moment_85 flX10_19 (hF.lt (by decide)) (hF.kc (by decide) rfl) (hF.pt 3 rfl) ?_
    refine ez_bipush (v := 100) dX10_moment_88 (by decide) ?_
    refine ez_iload (i := 4) dX10_moment_90 rfl ?_
    refine ez_iload_n (i := 3) dX10_moment_92 rfl rfl ?_
    refine ez_aload_n (i := 0) dX10_moment_93 rfl rfl ?_
    refine ez_getR dX10_moment_94 flX10_33 (hF.lt (by decide)) (hF.kc (by decide) rfl) (hF.pt 21 rfl) ?_
    refine ez_getI dX10_moment_97 flX10_272 (hF.lt (by decide)) (hF.kc (by decide) rfl) ?_
    refine ez_topE (y := T.x 21) hK4.C.sh.s ?_
    refine ez_callS (M1 := mX10_pullOf) (rest := [.int 100, .ref 3]) dX10_moment_100 mlX10_275 msX10_pullOf rfl (Nat.le_of_ble_eq_true rfl) rfl (zq_r (q_X10_pullOf (d + 58) (zst T T.x) (zhw T T.x) (T.x 21)) (n, sl, kd, I1, L, Rf)) eb_rok ?_
    rintro _ _ ⟨rfl, rfl⟩
    show ez_P _ _ _ _ _ _ 103 [(4, .int (zst T T.x)), (3, .int (zhw T T.x)), (2, .int lb), (1, .int st), (0, .ref 0)] (.int (z_pull (zst T T.x) (zhw T T.x) (T.x 21)) :: [.int 100, .ref 3]) _ _
    refine ez_topE (y := zpl T T.x) rfl ?_
    refine ez_iadd dX10_moment_103 ?_
    refine ez_iload_n (i := 1) dX10_moment_104 rfl rfl ?_
    refine ez_iload_n (i := 2) dX10_moment_105 rfl rfl ?_
    refine ez_callV (M1 := mX4_tell__) (rest := []) dX10_moment_106 mlX10_279 mvX4_tell__ rfl (hF.lt (by decide)) (hF.kc (by decide) rfl) (Nat.le_of_ble_eq_true rfl) rfl (y_X4_tell__ (I := I1) (L := L) (d + 58) hF (100 + (zpl T T.x)) st lb) z_tok ?_
    rintro _ _ ⟨rfl, I7, L8, rfl, hr9, ho10⟩
    show ez_P _ _ _ _ _ _ 109 [(4, .int (zst T T.x)), (3, .int (zhw T T.x)), (2, .int lb), (1, .int st), (0, .ref 0)] [] (n, sl, kd, I7, L8, Rf) _
    have hK11 : zK n kd I L Rf I I7 L8 Rf (T.w_rw [(100 + (zpl T T.x)).toInt64, st.toInt64, lb.toInt64]) none none true := by exact hK4.tell hr9 ho10
    refine ez_sipush (v := 1000) dX10_moment_109 (by decide) ?_
    refine ez_iload (i := 4) dX10_moment_112 rfl ?_
    refine ez_iadd dX10_moment_114 ?_
    refine ez_iconst (v := 2) dX10_moment_115 (by decide) ?_
    refine ez_iload_n (i := 3) dX10_moment_116 rfl rfl ?_
    refine ez_imul dX10_moment_117 ?_
    refine ez_aload_n (i := 0) dX10_moment_118 rfl rfl ?_
    refine ez_getR dX10_moment_119 flX10_33 (hF.lt (by decide)) (hF.kc (by decide) rfl) (hF.pt 21 rfl) ?_
    refine ez_getI dX10_moment_122 flX10_272 (hF.lt (by decide)) (hF.kc (by decide) rfl) ?_
    refine ez_topE (y := T.x 21) hK11.C.sh.s ?_
    refine ez_imul dX10_moment_125 ?_
    refine ez_iadd dX10_moment_126 ?_
    refine ez_iret dX10_moment_127 rfl rfl ?_
    rw [Int32.add_assoc]
    rw [show s_moment T = (1000 + (zst T T.x + 2 * zhw T T.x * T.x 21), T.w_rw [(100 + zpl T T.x).toInt64, st.toInt64, lb.toInt64]) from by unfold s_moment; rw [← hac]]
    exact hK11.end
