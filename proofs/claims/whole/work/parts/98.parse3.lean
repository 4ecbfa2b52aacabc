/-! the two readers of a rule: what follows -/
theorem z_rs_cg {pg pg2 th : Nat → Int32} : ∀ k, (∀ q, q < k → pg q = pg2 q) → z_rs pg th k = z_rs pg2 th k
  | 0, _ => rfl
  | k + 1, h => by rw [z_rs, z_rs, z_rs_cg k (fun q hq => h q (by omega)), h k (by omega)]
theorem z_rs_ex {pg : List Int32} {th : Nat → Int32} : ∀ k, k ≤ pg.length → z_rs (fun k => pg.getD k 0) th k = zex th (pg.take k) []
  | 0, _ => by simp [z_rs, zex]
  | k + 1, h => by
    rw [z_rs, z_rs_ex k (by omega), List.take_succ, zex_app, List.getElem?_eq_getElem (by omega)]
    simp only [List.getD, List.getElem?_eq_getElem (show k < pg.length by omega)]
    rfl
theorem z_b25 : ∀ x, x < 256 → (nI x).toInt8.toInt32 &&& 255 = nI x := by decide +kernel
theorem zhx_of {t tb : Nat → Int32} {m : Nat} (ht : ∀ q, q < m → ∃ x, x < 256 ∧ t q = nI x) (hb : ∀ q, q < m → tb q = (t q).toInt8.toInt32) : zhx (zhr tb m 40) t m := by
  refine ⟨fun p h1 h2 => ?_, fun p h => by unfold zhr; rw [if_neg h]⟩
  obtain ⟨x, hx, e⟩ := ht p h1
  refine ⟨?_, x, hx, e⟩
  unfold zhr
  rw [if_pos ⟨h1, h2⟩, hb p h1, e, z_b25 x hx]
theorem zpar_f {t hr : Nat → Int32} {m : Nat} (hx : zhx hr t m) (as : Nat → Int32) : (if (zp hr as 300 0 0 0 (0, -1)).2.1 < m then (zp_fault (zp hr as 300 0 0 0 (0, -1)).2.1 (zp hr as 300 0 0 0 (0, -1)).2).2 else (zp hr as 300 0 0 0 (0, -1)).2.2) = zra m (zrn t m 0 z_R0) ∧ (zra m (zrn t m 0 z_R0) = -1 → ∃ R', zrn t m 0 z_R0 = .inr R' ∧ zrp as 1 [] [] (zp hr as 300 0 0 0 (0, -1)).1 R') := by
  have h := (zkall (as := as) hx 300).2.2.2.2.2 0 0 z_R0 (fun _ => false) ⟨rfl, rfl, fun _ _ => rfl⟩ rfl (Or.inl rfl) (by omega) (by omega) (by omega) (by omega)
  obtain ⟨o, ho⟩ : ∃ o, o = zp hr as 300 0 0 0 (0, -1) := ⟨_, rfl⟩
  rw [← ho] at h ⊢
  rcases h with ⟨q, hq, e1, e2⟩ | ⟨e1, -, e3, e3m, R', e4, ⟨k1, k2, -⟩, k4, k5⟩
  · have hn : ¬ nI q = -1 := nI_nm1 q (by omega)
    refine ⟨?_, fun g => absurd (e2.symm.trans g) hn⟩
    have hf : (zp_fault o.2.1 o.2).2 = nI q := by unfold zp_fault; rw [if_neg (by rw [e1]; exact hn), e1]
    rw [e2, hf, e1]
    split <;> rfl
  · rw [e4]
    by_cases hm : o.2.1 < m
    · have hz : zrn t m o.2.1 R' = .inl o.2.1 := by
        by_cases en : hr o.2.1 = -1
        · refine zrn_4 hm (Nat.le_of_not_lt (fun g => ?_))
          obtain ⟨a1, x, hx1, a2⟩ := hx.1 _ hm g
          exact nI_nm1 x (by omega) (by rw [← a2, ← a1, en])
        · by_cases e41 : hr o.2.1 = 41
          · refine zrn_n hx en ?_
            rw [z_tk_j k1, e41, z_tj, if_neg (by decide), if_pos rfl]
            unfold z_cl; rw [if_pos k2]
          · exact zrn_n hx en (k5 en e41)
      rw [hz, if_pos hm, zp_fault, if_pos e1]
      exact ⟨rfl, fun g => absurd g (nI_nm1 _ (by omega))⟩
    · have hm2 : o.2.1 = m := by omega
      rw [if_neg hm, hm2, zrn_e]
      refine ⟨?_, fun _ => ⟨R', rfl, k4⟩⟩
      rw [e1]; unfold zra; simp only
      rw [if_neg (by rw [k1, k2]; decide)]
theorem z_rda_e {t : Nat → Int32} {m : Nat} (hm : ¬ m = 0) : z_rda t m = zra m (zrn t m 0 z_R0) := by
  unfold z_rda zra zrn
  rw [if_neg hm, Nat.sub_zero]
  cases z_rdl t m 0 z_R0 <;> rfl
theorem zpar {t tb : Nat → Int32} {m : Nat} (ht : ∀ q, q < m → ∃ x, x < 256 ∧ t q = nI x) (hb : ∀ q, q < m → tb q = (t q).toInt8.toInt32) : z_rda t m = zrdM tb m ∧ (z_rda t m = -1 → ∀ th, z_val (fun k => (z_rdR t m).1.getD k 0) th (z_rdR t m).1.length = zrvM tb m th) := by
  by_cases hm : m = 0
  · subst hm
    refine ⟨rfl, fun _ th => ?_⟩
    show (z_stp th (-143) (z_stp th (-2) (z_stp th (-1) []))).headD 0 = zrvM tb 0 th
    rw [z_stp_l (cd := -1) (lt := 0) (by decide) (by decide) (by decide), z_stp_l (cd := -2) (lt := 1) (by decide) (by decide) (by decide), z_stp_2 (cd := -143) (by decide) rfl (by decide) (by decide)]
    rfl
  have hx := zhx_of ht hb
  refine ⟨?_, fun h th => ?_⟩
  · rw [z_rda_e hm, ← (zpar_f hx (fun _ => 0)).1]
    unfold zrdM; rw [if_neg hm]
  · rw [z_rda_e hm] at h
    obtain ⟨R', e1, u, code, k1, k2, k3, k4⟩ := (zpar_f hx th).2 h
    have hR : z_rdR t m = z_rel 0 R' := by
      unfold zrn at e1; rw [Nat.sub_zero] at e1
      unfold z_rdR; rw [if_neg hm, e1]
    have hl : (z_rel 0 R').1 = code := by
      unfold z_rel
      show (z_rl 0 R'.2.1 R'.1).2 = code
      rw [k1, z_rl_u u [] _ (fun s hs => ⟨(k2 s hs).1, Int32.le_trans (by decide) (k2 s hs).2⟩), k3]
      rfl
    unfold z_val
    rw [hR, hl, z_rs_ex _ (Nat.le_refl _), List.take_length, k4]
    unfold zrvM; rw [if_neg hm]; rfl
/-- which letters a rule sees -/
def zwl_ (s : Int32) : Prop := s = 40 ∨ s = 60 ∨ s = 61 ∨ s = 62 ∨ s = 43 ∨ s = 45 ∨ s = 42 ∨ s = 47 ∨ s = 256
def zsee (R : z_R) : Prop := (R.2.2.2.2.2.2.1 = false → ∀ c ∈ R.1, c ≠ -5) ∧ (R.2.2.2.2.2.2.2 = false → ∀ c ∈ R.1, c ≠ -7) ∧ (∀ s ∈ R.2.1, zwl_ s) ∧ (R.2.2.2.1 ≠ 0 → R.2.2.2.1 ≤ 3 ∧ ∃ pg x, x < 10 ^ R.2.2.2.1 ∧ R.1 = pg ++ [nI x])
theorem z_rl_mem {r : Int32} : ∀ (wt pg : List Int32), (∀ s ∈ (z_rl r wt pg).1, s ∈ wt) ∧ ∀ c ∈ (z_rl r wt pg).2, c ∈ pg ∨ ∃ s ∈ wt, c = -100 - s
  | [], pg => ⟨fun _ h => h, fun _ h => Or.inl h⟩
  | s :: wt, pg => by
    rw [z_rl]
    split
    · exact ⟨fun _ h => h, fun _ h => Or.inl h⟩
    · have ih := z_rl_mem (r := r) wt (pg ++ [-100 - s])
      refine ⟨fun q hq => List.mem_cons_of_mem _ (ih.1 q hq), fun c hc => ?_⟩
      rcases ih.2 c hc with h | ⟨q, hq, e⟩
      · rcases List.mem_append.mp h with h | h
        · exact Or.inl h
        · exact Or.inr ⟨s, List.mem_cons_self .., List.mem_singleton.mp h⟩
      · exact Or.inr ⟨q, List.mem_cons_of_mem _ hq, e⟩
theorem zwl_n {s : Int32} (h : zwl_ s) : -100 - s ≠ -5 ∧ -100 - s ≠ -7 := by
  rcases h with rfl | rfl | rfl | rfl | rfl | rfl | rfl | rfl | rfl <;> decide
theorem zsee.rl {R : z_R} (h : zsee R) (r : Int32) : (R.2.2.2.2.2.2.1 = false → ∀ c ∈ (z_rl r R.2.1 R.1).2, c ≠ -5) ∧ (R.2.2.2.2.2.2.2 = false → ∀ c ∈ (z_rl r R.2.1 R.1).2, c ≠ -7) ∧ ∀ s ∈ (z_rl r R.2.1 R.1).1, zwl_ s := by
  have hm := z_rl_mem (r := r) R.2.1 R.1
  refine ⟨fun g c hc => ?_, fun g c hc => ?_, fun s hs => h.2.2.1 s (hm.1 s hs)⟩
  · rcases hm.2 c hc with k | ⟨s, k, e⟩
    · exact h.1 g c k
    · rw [e]; exact (zwl_n (h.2.2.1 s k)).1
  · rcases hm.2 c hc with k | ⟨s, k, e⟩
    · exact h.2.1 g c k
    · rw [e]; exact (zwl_n (h.2.2.1 s k)).2
theorem z_num_n {x : Nat} (h : x < 10000) : nI x ≠ -5 ∧ nI x ≠ -7 := by
  have := nI_pos' (n := x) (by omega)
  exact ⟨fun e => by rw [e] at this; exact absurd this (by decide), fun e => by rw [e] at this; exact absurd this (by decide)⟩
theorem z_dg_n {s : Int32} (h : 48 ≤ s ∧ s ≤ 57) : ∃ x, x < 10 ∧ s - 48 = nI x := by
  have h1 := h.1
  have h2 := h.2
  rw [Int32.le_iff_toInt_le] at h1 h2
  have a1 : (48 : Int32).toInt = 48 := rfl
  have a2 : (57 : Int32).toInt = 57 := rfl
  refine ⟨(s.toInt - 48).toNat, by omega, ?_⟩
  rw [← Int32.toInt_inj, nI_toInt (by omega), Int32.toInt_sub, a1, Int.bmod_eq_of_le (by omega) (by omega)]
  omega
theorem z_letter_n {s : Int32} (h : ¬ z_li s < 0) : (-1 - z_li s = -5 → s = 108) ∧ (-1 - z_li s = -7 → s = 110) := by
  unfold z_li at h ⊢
  by_cases h1 : s = 103
  · rw [if_pos h1]; exact ⟨fun e => absurd e (by decide), fun e => absurd e (by decide)⟩
  rw [if_neg h1] at h ⊢
  by_cases h2 : s = 116
  · rw [if_pos h2]; exact ⟨fun e => absurd e (by decide), fun e => absurd e (by decide)⟩
  rw [if_neg h2] at h ⊢
  by_cases h3 : s = 107
  · rw [if_pos h3]; exact ⟨fun e => absurd e (by decide), fun e => absurd e (by decide)⟩
  rw [if_neg h3] at h ⊢
  by_cases h4 : s = 112
  · rw [if_pos h4]; exact ⟨fun e => absurd e (by decide), fun e => absurd e (by decide)⟩
  rw [if_neg h4] at h ⊢
  by_cases h5 : s = 108
  · rw [if_pos h5]; exact ⟨fun _ => h5, fun e => absurd e (by decide)⟩
  rw [if_neg h5] at h ⊢
  by_cases h6 : s = 105
  · rw [if_pos h6]; exact ⟨fun e => absurd e (by decide), fun e => absurd e (by decide)⟩
  rw [if_neg h6] at h ⊢
  by_cases h7 : s = 110
  · rw [if_pos h7]; exact ⟨fun e => absurd e (by decide), fun _ => h7⟩
  rw [if_neg h7] at h
  exact absurd (by decide) h
theorem zse_push {R : z_R} (h : zsee R) {c : Int32} {b5 b7 : Bool} (h5 : c = -5 → b5 = true) (h7 : c = -7 → b7 = true) : ((R.2.2.2.2.2.2.1 || b5) = false → ∀ q ∈ R.1 ++ [c], q ≠ -5) ∧ ((R.2.2.2.2.2.2.2 || b7) = false → ∀ q ∈ R.1 ++ [c], q ≠ -7) := by
  refine ⟨fun g q hq => ?_, fun g q hq => ?_⟩
  · rw [Bool.or_eq_false_iff] at g
    rcases List.mem_append.mp hq with hq | hq
    · exact h.1 g.1 q hq
    · rw [List.mem_singleton.mp hq]; exact fun e => by rw [h5 e] at g; exact absurd g.2 (by decide)
  · rw [Bool.or_eq_false_iff] at g
    rcases List.mem_append.mp hq with hq | hq
    · exact h.2.1 g.1 q hq
    · rw [List.mem_singleton.mp hq]; exact fun e => by rw [h7 e] at g; exact absurd g.2 (by decide)
theorem z_tk_se {s : Int32} {R R1 : z_R} (h : zsee R) (e : z_tk s R = some R1) : zsee R1 := by
  unfold z_tk at e
  split at e
  · unfold z_tt at e
    by_cases c1 : s = 45
    · rw [if_pos c1] at e; simp only [Option.some.injEq] at e; subst e
      exact ⟨h.1, h.2.1, fun q hq => (List.mem_cons.mp hq).elim (fun g => by rw [g]; exact Or.inr (Or.inr (Or.inr (Or.inr (Or.inr (Or.inr (Or.inr (Or.inr rfl))))))) ) (fun g => h.2.2.1 q g), h.2.2.2⟩
    rw [if_neg c1] at e
    by_cases c2 : s = 40
    · rw [if_pos c2] at e
      unfold z_op at e
      split at e
      · cases e
      · simp only [Option.some.injEq] at e; subst e
        exact ⟨h.1, h.2.1, fun q hq => (List.mem_cons.mp hq).elim (fun g => by rw [g]; exact Or.inl rfl) (fun g => h.2.2.1 q g), h.2.2.2⟩
    rw [if_neg c2] at e
    by_cases c3 : 48 ≤ s ∧ s ≤ 57
    · rw [if_pos c3] at e; simp only [Option.some.injEq] at e; subst e
      obtain ⟨x, hx, ex⟩ := z_dg_n c3
      have hn := z_num_n (x := x) (by omega)
      have hp := zse_push h (c := s - 48) (b5 := decide (s = 108)) (b7 := decide (s = 110)) (fun g => absurd (ex.symm.trans g) hn.1) (fun g => absurd (ex.symm.trans g) hn.2)
      exact ⟨hp.1, hp.2, h.2.2.1, fun _ => ⟨by show 1 ≤ 3; omega, R.1, x, hx, by show R.1 ++ [s - 48] = _; rw [ex]⟩⟩
    rw [if_neg c3] at e
    by_cases c4 : z_li s < 0
    · rw [if_pos c4] at e; cases e
    rw [if_neg c4] at e; simp only [Option.some.injEq] at e; subst e
    have hn := z_letter_n c4
    have hp := zse_push h (c := -1 - z_li s) (b5 := decide (s = 108)) (b7 := decide (s = 110)) (fun g => decide_eq_true (hn.1 g)) (fun g => decide_eq_true (hn.2 g))
    exact ⟨hp.1, hp.2, h.2.2.1, fun g => absurd rfl g⟩
  · unfold z_tj at e
    by_cases c1 : 48 ≤ s ∧ s ≤ 57
    · rw [if_pos c1] at e
      unfold z_ln3 at e
      by_cases c2 : R.2.2.2.1 = 0 ∨ R.2.2.2.1 = 3 ∨ R.1 = []
      · rw [if_pos c2] at e; cases e
      rw [if_neg c2] at e; simp only [Option.some.injEq] at e; subst e
      obtain ⟨hd3, pg, x, hx, ex⟩ := h.2.2.2 (fun g => c2 (Or.inl g))
      obtain ⟨y, hy, ey⟩ := z_dg_n c1
      have hd : R.2.2.2.1 = 1 ∨ R.2.2.2.1 = 2 := by
        have g1 : ¬ R.2.2.2.1 = 0 := fun g => c2 (Or.inl g)
        have g2 : ¬ R.2.2.2.1 = 3 := fun g => c2 (Or.inr (Or.inl g))
        omega
      have hx2 : x < 100 := by rcases hd with g | g <;> rw [g] at hx <;> omega
      have hp : R.1.dropLast ++ [R.1.getD (R.1.length - 1) 0 * 10 + (s - 48)] = pg ++ [nI (10 * x + y)] := by
        rw [ex, ey, z_getD_snoc]
        simp
        rw [Int32.mul_comm, show (10 : Int32) = nI 10 by decide, nI_mul, nI_add]
      have hpg : ∀ q ∈ pg, q ∈ R.1 := fun q hq => by rw [ex]; exact List.mem_append_left _ hq
      have hn := z_num_n (x := 10 * x + y) (by omega)
      refine ⟨fun g q hq => ?_, fun g q hq => ?_, h.2.2.1, fun _ => ⟨by show R.2.2.2.1 + 1 ≤ 3; omega, pg, 10 * x + y, ?_, hp⟩⟩
      · have hq : q ∈ pg ++ [nI (10 * x + y)] := by rw [← hp]; exact hq
        rcases List.mem_append.mp hq with hq | hq
        · exact h.1 g q (hpg q hq)
        · rw [List.mem_singleton.mp hq]; exact hn.1
      · have hq : q ∈ pg ++ [nI (10 * x + y)] := by rw [← hp]; exact hq
        rcases List.mem_append.mp hq with hq | hq
        · exact h.2.1 g q (hpg q hq)
        · rw [List.mem_singleton.mp hq]; exact hn.2
      · show 10 * x + y < 10 ^ (R.2.2.2.1 + 1)
        rw [Nat.pow_succ]; omega
    rw [if_neg c1] at e
    by_cases c2 : s = 41
    · rw [if_pos c2] at e
      unfold z_cl at e
      split at e
      · cases e
      · simp only [Option.some.injEq] at e; subst e
        have hr := h.rl 0
        exact ⟨hr.1, hr.2.1, fun q hq => hr.2.2 q (List.mem_of_mem_tail hq), fun g => absurd rfl g⟩
    rw [if_neg c2] at e
    by_cases c3 : z_rk s = 0 ∨ (z_rk s = 1 ∧ R.2.2.2.2.2.1 R.2.2.1 = true)
    · rw [if_pos c3] at e; cases e
    rw [if_neg c3] at e; simp only [Option.some.injEq] at e; subst e
    have hr := h.rl (z_rk s)
    refine ⟨hr.1, hr.2.1, fun q hq => ?_, fun g => absurd rfl g⟩
    rcases List.mem_cons.mp hq with hq | hq
    · rw [hq]
      have h0 : ¬ z_rk s = 0 := fun g => c3 (Or.inl g)
      unfold z_rk at h0
      unfold zwl_
      by_cases a1 : s = 60 ∨ s = 61 ∨ s = 62
      · rcases a1 with a | a | a <;> simp [a]
      rw [if_neg a1] at h0
      by_cases a2 : s = 43 ∨ s = 45
      · rcases a2 with a | a <;> simp [a]
      rw [if_neg a2] at h0
      by_cases a3 : s = 42 ∨ s = 47
      · rcases a3 with a | a <;> simp [a]
      rw [if_neg a3] at h0
      by_cases a4 : s = 256
      · simp [a4]
      rw [if_neg a4] at h0
      exact absurd rfl h0
    · exact hr.2.2 q hq
theorem z_rdl_se {t : Nat → Int32} : ∀ (j p : Nat) (R R1 : z_R), zsee R → z_rdl t j p R = .inr R1 → zsee R1
  | 0, p, R, R1, h, e => by
    rw [z_rdl] at e
    simp only [Sum.inr.injEq] at e; subst e; exact h
  | j + 1, p, R, R1, h, e => by
    rw [z_rdl] at e
    split at e
    · cases e
    · split at e
      · cases e
      · rename_i R2 hR2
        exact z_rdl_se j (p + 1) R2 R1 (z_tk_se h hR2) e
theorem zse_rd {t : Nat → Int32} {m : Nat} (h : z_rda t m = -1) : ((z_rdR t m).2.2.2.2.2.2.1 = false → ∀ c ∈ (z_rdR t m).1, c ≠ -5) ∧ ((z_rdR t m).2.2.2.2.2.2.2 = false → ∀ c ∈ (z_rdR t m).1, c ≠ -7) ∧ (z_rdR t m).1.length ≤ 40 := by
  by_cases hm : m = 0
  · subst hm
    refine ⟨fun _ c hc => ?_, fun _ c hc => ?_, by show 3 ≤ 40; omega⟩
    · have hc : c ∈ ([-1, -2, -143] : List Int32) := hc
      simp only [List.mem_cons, List.not_mem_nil, or_false] at hc
      rcases hc with rfl | rfl | rfl <;> decide
    · have hc : c ∈ ([-1, -2, -143] : List Int32) := hc
      simp only [List.mem_cons, List.not_mem_nil, or_false] at hc
      rcases hc with rfl | rfl | rfl <;> decide
  · rw [z_rda_e hm] at h
    unfold zrn at h; rw [Nat.sub_zero] at h
    unfold z_rdR; rw [if_neg hm]
    cases e : z_rdl t m 0 z_R0 with
    | inl q => exact ⟨fun _ c hc => absurd hc List.not_mem_nil, fun _ c hc => absurd hc List.not_mem_nil, Nat.zero_le _⟩
    | inr R =>
      have hs := z_rdl_se m 0 z_R0 R ⟨fun _ c hc => absurd hc List.not_mem_nil, fun _ c hc => absurd hc List.not_mem_nil, fun c hc => absurd hc List.not_mem_nil, fun g => absurd rfl g⟩ e
      have hr := hs.rl 0
      have hl := z_rdl_le (t := t) (m := m) z_R0 m 0 z_R0 R z_ok0 (by omega) e
      have hl2 := z_rl_len 0 R.2.1 R.1
      exact ⟨hr.1, hr.2.1, by show (z_rl 0 R.2.1 R.1).2.length ≤ 40; omega⟩
theorem z_stp_see {th th' : Nat → Int32} {cd : Int32} {st : List Int32} {x5 x7 : Bool} (h : ∀ q, q < 7 → (x5 = true → q ≠ 4) → (x7 = true → q ≠ 6) → th q = th' q) (h5 : x5 = true → cd ≠ -5) (h7 : x7 = true → cd ≠ -7) : z_stp th cd st = z_stp th' cd st := by
  unfold z_stp
  by_cases c1 : 0 ≤ cd
  · rw [if_pos c1, if_pos c1]
  rw [if_neg c1, if_neg c1]
  by_cases c2 : -1 - cd < 7
  · rw [if_pos c2, if_pos c2]
    have c0 : (0 : Int32) ≤ -1 - cd := z_ltp (Int32.not_le.mp c1) rfl
    obtain ⟨q, hq, e⟩ : ∃ q, q < 7 ∧ -1 - cd = nI q := by
      rw [Int32.le_iff_toInt_le] at c0
      rw [Int32.lt_iff_toInt_lt] at c2
      have a1 : (0 : Int32).toInt = 0 := rfl
      have a2 : (7 : Int32).toInt = 7 := rfl
      refine ⟨(-1 - cd).toInt.toNat, by omega, ?_⟩
      rw [← Int32.toInt_inj, nI_toInt (by omega)]; omega
    have ecd : cd = -1 - nI q := by
      rw [← e]
      have : ∀ c : Int32, c = -1 - (-1 - c) := fun c => by rw [← Int32.toBitVec_inj]; simp; bv_omega
      exact this cd
    rw [e, nI_clamp (by omega), h q hq (fun g g4 => h5 g (by rw [ecd, g4]; decide)) (fun g g6 => h7 g (by rw [ecd, g6]; decide))]
  · rw [if_neg c2, if_neg c2]
theorem z_val_see {pg : List Int32} {th th' : Nat → Int32} {x5 x7 : Bool} (h : ∀ q, q < 7 → (x5 = true → q ≠ 4) → (x7 = true → q ≠ 6) → th q = th' q) (h5 : x5 = true → ∀ c ∈ pg, c ≠ -5) (h7 : x7 = true → ∀ c ∈ pg, c ≠ -7) : z_val (fun k => pg.getD k 0) th pg.length = z_val (fun k => pg.getD k 0) th' pg.length := by
  have : ∀ k, k ≤ pg.length → z_rs (fun k => pg.getD k 0) th k = z_rs (fun k => pg.getD k 0) th' k := by
    intro k
    induction k with
    | zero => intro _; rfl
    | succ k ih =>
      intro hk
      have hm : pg.getD k 0 ∈ pg := by
        rw [List.getD, List.getElem?_eq_getElem (by omega)]; exact List.getElem_mem _
      rw [z_rs, z_rs, ih (by omega)]
      exact z_stp_see h (fun g => h5 g _ hm) (fun g => h7 g _ hm)
  unfold z_val; rw [this _ (Nat.le_refl _)]
/-- the cells of what was read hold the rule that the reference reads -/
theorem zRu_rd {I : Nat → Nat → Int32} {a m : Nat} {t tb : Nat → Int32} (ht : ∀ q, q < m → ∃ x, x < 256 ∧ t q = nI x) (hb : ∀ q, q < m → tb q = (t q).toInt8.toInt32) (h : z_rda t m = -1) (hR : z_RI I a (z_rdR t m)) : zRu I a (zrvM tb m) := by
  obtain ⟨s5, s7, sl⟩ := zse_rd h
  have hv := (zpar ht hb).2 h
  obtain ⟨⟨a1, a2⟩, -, -, -, -, -, a9, a10⟩ := hR
  have b9 : I a 9 = 0 → (z_rdR t m).2.2.2.2.2.2.1 = false := fun g => by rw [a9] at g; exact Bool.eq_false_iff.mpr (z_b2z g)
  have b10 : I a 10 = 0 → (z_rdR t m).2.2.2.2.2.2.2 = false := fun g => by rw [a10] at g; exact Bool.eq_false_iff.mpr (z_b2z g)
  refine ⟨⟨_, sl, a1, fun th => ?_⟩, fun g th th' e => ?_, fun g th th' e => ?_, fun g g2 th th' e => ?_⟩
  · rw [← hv th]; unfold z_val; rw [z_rs_cg _ a2]
  · rw [← hv th, ← hv th']; exact z_val_see (x5 := true) (x7 := false) (fun q hq h4 _ => e q hq (h4 rfl)) (fun _ => s5 (b9 g)) (fun g => absurd g (by decide))
  · rw [← hv th, ← hv th']; exact z_val_see (x5 := false) (x7 := true) (fun q hq _ h6 => e q hq (h6 rfl)) (fun g => absurd g (by decide)) (fun _ => s7 (b10 g))
  · rw [← hv th, ← hv th']; exact z_val_see (x5 := true) (x7 := true) (fun q hq h4 h6 => e q hq (h4 rfl) (h6 rfl)) (fun _ => s5 (b9 g)) (fun _ => s7 (b10 g2))
