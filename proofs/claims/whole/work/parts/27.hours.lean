/-! how a lean goes; hours -/
def z_mn (x y : Int32) : Int32 := if y < x then y else x
def z_mx (x y : Int32) : Int32 := if x < y then y else x
def z_lb (lean pull : Int32) : Int32 := if pull < lean then lean - (if z_ab (pull - lean) < 6 then z_mn (z_ab (pull - lean)) 1 else 2) else lean + (if z_ab (pull - lean) < 6 then z_mn (z_ab (pull - lean)) 1 else 2)
/-- from -20 to 20 -/
def z_rg (x : Int32) : Prop := ∃ k, k < 41 ∧ x = nI k - 20
theorem z_rg_of {x : Int32} (h1 : -20 ≤ x) (h2 : x ≤ 20) : z_rg x := by
  have e1 : (-20 : Int32).toInt ≤ x.toInt := Int32.le_iff_toInt_le.mp h1
  have e2 : x.toInt ≤ (20 : Int32).toInt := Int32.le_iff_toInt_le.mp h2
  rw [show (-20 : Int32).toInt = -20 from rfl] at e1
  rw [show (20 : Int32).toInt = 20 from rfl] at e2
  refine ⟨(x.toInt + 20).toNat, by omega, ?_⟩
  apply Int32.toInt_inj.mp
  rw [Int32.toInt_sub, nI_toInt (by omega), show (20 : Int32).toInt = 20 from rfl, Int.bmod_eq_of_le (by omega) (by omega)]
  omega
theorem z_lb_k : ∀ x, x < 41 → ∀ y, y < 41 → (z_lb (nI x - 20) (nI y - 20) + 20).toNatClampNeg < 41 ∧ z_lb (nI x - 20) (nI y - 20) = nI (z_lb (nI x - 20) (nI y - 20) + 20).toNatClampNeg - 20 := by decide +kernel
theorem z_lb_rg {x y : Int32} (hx : z_rg x) (hy : z_rg y) : z_rg (z_lb x y) := by
  obtain ⟨a, ha, rfl⟩ := hx
  obtain ⟨b, hb, rfl⟩ := hy
  exact ⟨_, (z_lb_k a ha b hb).1, (z_lb_k a ha b hb).2⟩
theorem z_ab_k : ∀ x, x < 41 → (z_ab (nI x - 20)).toNatClampNeg ≤ 20 ∧ z_ab (nI x - 20) = nI (z_ab (nI x - 20)).toNatClampNeg := by decide +kernel
theorem z_ab_rg {x : Int32} (hx : z_rg x) : (z_ab x).toNatClampNeg ≤ 20 ∧ z_ab x = nI (z_ab x).toNatClampNeg := by
  obtain ⟨a, ha, rfl⟩ := hx
  exact z_ab_k a ha
theorem z_put_rg (v : Int32) : z_rg (z_put v (-20) 20) := by
  unfold z_put
  split
  · exact ⟨0, by decide, by decide⟩
  · split
    · exact ⟨40, by decide, by decide⟩
    · exact z_rg_of (Int32.not_lt.mp (by assumption)) (Int32.not_lt.mp (by assumption))
theorem z_pull_rg (b w s : Int32) : z_rg (z_pull b w s) := z_put_rg _
/-- what the weights come to by a lean and an hour -/
def z_wv (I : Nat → Nat → Int32) (i a s0 j c : Nat) (ln hr : Int32) (b : Nat) : Int32 := z_wa (I (a + 1)) s0 (I (j + 1) b) (I (i + 1) (I (j + 2) b).toNatClampNeg) (z_cnt (I (j + 2)) (I (j + 2) b) c) (I (j + 3) b) ln (nI b) hr
def z_bv (I : Nat → Nat → Int32) (i a s0 j c : Nat) (ln hr : Int32) : Nat → Int32
  | 0 => 0
  | k + 1 => z_bv I i a s0 j c ln hr k + z_wv I i a s0 j c ln hr k * I (j + 3) k
theorem z_bs_bv (I : Nat → Nat → Int32) (i a s0 j c k : Nat) : z_bs I i a s0 j c k = z_bv I i a s0 j c (I j 5) (I j 8) k := by
  induction k with
  | zero => rfl
  | succ k ih => rw [z_bs, z_bv, ih]; rfl
theorem z_bv_only {P : Nat → Prop} {I I1 : Nat → Nat → Int32} {i a s0 j c : Nat} {ln hr : Int32} (h : z_only P I I1) (h1 : ¬ P (a + 1)) (h2 : ¬ P (j + 1)) (h3 : ¬ P (i + 1)) (h4 : ¬ P (j + 2)) (h5 : ¬ P (j + 3)) (k : Nat) : z_bv I1 i a s0 j c ln hr k = z_bv I i a s0 j c ln hr k := by
  induction k with
  | zero => rfl
  | succ k ih =>
    rw [z_bv, z_bv, ih, z_wv, z_wv, h _ h1, h _ h2, h _ h3, h _ h4, h _ h5]
/-- sail, lean, leagues, overs, hour -/
abbrev z_S : Type := Int32 × Int32 × Int32 × Int32 × Nat
/-- an hour: wd the winds, bl the ballast by a lean and an hour -/
def z_hl (wd : Nat → Int32) (bl : Int32 → Nat → Int32) (S : z_S) : Int32 := z_lb S.2.1 (z_pull (bl S.2.1 S.2.2.2.2) (wd S.2.2.2.2) S.1)
def z_hg (wd : Nat → Int32) (bl : Int32 → Nat → Int32) (S : z_S) : Int32 := z_mn (S.2.2.1 + z_mx (z_ab (wd S.2.2.2.2 * S.1) / 3 - z_ab (z_hl wd bl S) / 2) 0) 9999
def z_h (wd : Nat → Int32) (bl : Int32 → Nat → Int32) (S : z_S) : z_S := if z_ab (z_hl wd bl S) < 15 then (S.1, z_hl wd bl S, z_hg wd bl S, S.2.2.2.1, S.2.2.2.2 + 1) else (0, z_hl wd bl S, z_hg wd bl S, z_mn (S.2.2.2.1 + 1) 999, S.2.2.2.2 + 1)
def z_ht (wd : Nat → Int32) (bl : Int32 → Nat → Int32) (S : z_S) : Int32 := if z_ab (z_hl wd bl S) < 15 then 0 else 1
/-- k hours -/
def z_hs (wd : Nat → Int32) (bl : Int32 → Nat → Int32) (S : z_S) : Nat → z_S
  | 0 => S
  | k + 1 => z_h wd bl (z_hs wd bl S k)
/-- how often over in k hours -/
def z_hts (wd : Nat → Int32) (bl : Int32 → Nat → Int32) (S : z_S) : Nat → Int32
  | 0 => 0
  | k + 1 => z_hts wd bl S k + z_ht wd bl (z_hs wd bl S k)
theorem z_hs_hr (wd : Nat → Int32) (bl : Int32 → Nat → Int32) (S : z_S) (k : Nat) : (z_hs wd bl S k).2.2.2.2 = S.2.2.2.2 + k := by
  induction k with
  | zero => rfl
  | succ k ih =>
    rw [z_hs, z_h]
    split <;> (show (z_hs wd bl S k).2.2.2.2 + 1 = _; rw [ih]; omega)
theorem z_hs_rg (wd : Nat → Int32) (bl : Int32 → Nat → Int32) (S : z_S) (h : z_rg S.2.1) (k : Nat) : z_rg (z_hs wd bl S k).2.1 := by
  induction k with
  | zero => exact h
  | succ k ih =>
    rw [z_hs, z_h]
    split <;> exact z_lb_rg ih (z_pull_rg _ _ _)
/-- the ship's S in memory -/
def z_SI (I : Nat → Nat → Int32) (j : Nat) (S : z_S) : Prop := I j 4 = S.1 ∧ I j 5 = S.2.1 ∧ I j 6 = S.2.2.1 ∧ I j 7 = S.2.2.2.1 ∧ I j 8 = nI S.2.2.2.2
theorem q_X10_leanBy {σ : eb_S} (d : Nat) (l p : Int32) : eb_Q mX10_leanBy (d + 1) [.int l, .int p] σ (eb_r (z_lb l p) σ) := by
  refine ep_meth pn_X.2.2.2.2.2.2.2.2.2.2.1 (Nat.le_of_ble_eq_true rfl) ?_
  show eb_P mX10_leanBy (d + 1) 0 [(0, .int l), (1, .int p)] [] σ _
  refine ep_iload_n (i := 1) dX10_leanBy_0 rfl rfl ?_
  refine ep_iload_n (i := 0) dX10_leanBy_1 rfl rfl ?_
  refine ep_isub dX10_leanBy_2 ?_
  refine ep_abs dX10_leanBy_3 xmX10_287 (Nat.le_of_ble_eq_true rfl) ?_
  refine ep_topE (y := z_ab (p - l)) rfl ?_
  refine ep_istore_n (l' := [(2, .int (z_ab (p - l))), (0, .int l), (1, .int p)]) dX10_leanBy_6 rfl (by decide) rfl ?_
  refine ep_iload_n (i := 2) dX10_leanBy_7 rfl rfl ?_
  refine ep_bipush (v := 6) dX10_leanBy_8 (by decide) ?_
  refine ep_icmp_lt (tgt := 17) dX10_leanBy_10 (by decide) (fun c1 => ?_) (fun c1 => ?_)
  · skip
    refine ep_iload_n (i := 2) dX10_leanBy_17 rfl rfl ?_
    refine ep_iconst (v := 1) dX10_leanBy_18 (by decide) ?_
    refine ep_min dX10_leanBy_19 xmX10_427 (Nat.le_of_ble_eq_true rfl) ?_
    refine ep_topE (y := z_mn (z_ab (p - l)) 1) rfl ?_
    refine ep_istore_n (l' := [(3, .int (z_mn (z_ab (p - l)) 1)), (2, .int (z_ab (p - l))), (0, .int l), (1, .int p)]) dX10_leanBy_22 rfl (by decide) rfl ?_
    refine ep_iload_n (i := 1) dX10_leanBy_23 rfl rfl ?_
    refine ep_iload_n (i := 0) dX10_leanBy_24 rfl rfl ?_
    refine ep_icmp_ge (tgt := 34) dX10_leanBy_25 (by decide) (fun c2 => ?_) (fun c2 => ?_)
    · skip
      refine ep_iload_n (i := 0) dX10_leanBy_34 rfl rfl ?_
      refine ep_iload_n (i := 3) dX10_leanBy_35 rfl rfl ?_
      refine ep_iadd dX10_leanBy_36 ?_
      refine ep_iret dX10_leanBy_37 rfl rfl ?_
      exact ⟨rfl, by subst_vars; unfold z_lb; first | rw [if_pos (by assumption), if_pos (by assumption)] | rw [if_pos (by assumption), if_neg (by assumption)] | rw [if_neg (Int32.not_lt.mpr (by assumption)), if_pos (by assumption)] | rw [if_neg (Int32.not_lt.mpr (by assumption)), if_neg (by assumption)] | (rw [if_pos (Int32.not_le.mp (by assumption)), if_pos (by assumption)]) | (rw [if_pos (Int32.not_le.mp (by assumption)), if_neg (by assumption)])⟩
    · skip
      refine ep_iload_n (i := 0) dX10_leanBy_28 rfl rfl ?_
      refine ep_iload_n (i := 3) dX10_leanBy_29 rfl rfl ?_
      refine ep_isub dX10_leanBy_30 ?_
      refine ep_goto (tgt := 37) dX10_leanBy_31 (by decide) ?_
      refine ep_iret dX10_leanBy_37 rfl rfl ?_
      exact ⟨rfl, by subst_vars; unfold z_lb; first | rw [if_pos (by assumption), if_pos (by assumption)] | rw [if_pos (by assumption), if_neg (by assumption)] | rw [if_neg (Int32.not_lt.mpr (by assumption)), if_pos (by assumption)] | rw [if_neg (Int32.not_lt.mpr (by assumption)), if_neg (by assumption)] | (rw [if_pos (Int32.not_le.mp (by assumption)), if_pos (by assumption)]) | (rw [if_pos (Int32.not_le.mp (by assumption)), if_neg (by assumption)])⟩
  · skip
    refine ep_iconst (v := 2) dX10_leanBy_13 (by decide) ?_
    refine ep_goto (tgt := 22) dX10_leanBy_14 (by decide) ?_
    refine ep_istore_n (l' := [(3, .int 2), (2, .int (z_ab (p - l))), (0, .int l), (1, .int p)]) dX10_leanBy_22 rfl (by decide) rfl ?_
    refine ep_iload_n (i := 1) dX10_leanBy_23 rfl rfl ?_
    refine ep_iload_n (i := 0) dX10_leanBy_24 rfl rfl ?_
    refine ep_icmp_ge (tgt := 34) dX10_leanBy_25 (by decide) (fun c3 => ?_) (fun c3 => ?_)
    · skip
      refine ep_iload_n (i := 0) dX10_leanBy_34 rfl rfl ?_
      refine ep_iload_n (i := 3) dX10_leanBy_35 rfl rfl ?_
      refine ep_iadd dX10_leanBy_36 ?_
      refine ep_iret dX10_leanBy_37 rfl rfl ?_
      exact ⟨rfl, by subst_vars; unfold z_lb; first | rw [if_pos (by assumption), if_pos (by assumption)] | rw [if_pos (by assumption), if_neg (by assumption)] | rw [if_neg (Int32.not_lt.mpr (by assumption)), if_pos (by assumption)] | rw [if_neg (Int32.not_lt.mpr (by assumption)), if_neg (by assumption)] | (rw [if_pos (Int32.not_le.mp (by assumption)), if_pos (by assumption)]) | (rw [if_pos (Int32.not_le.mp (by assumption)), if_neg (by assumption)])⟩
    · skip
      refine ep_iload_n (i := 0) dX10_leanBy_28 rfl rfl ?_
      refine ep_iload_n (i := 3) dX10_leanBy_29 rfl rfl ?_
      refine ep_isub dX10_leanBy_30 ?_
      refine ep_goto (tgt := 37) dX10_leanBy_31 (by decide) ?_
      refine ep_iret dX10_leanBy_37 rfl rfl ?_
      exact ⟨rfl, by subst_vars; unfold z_lb; first | rw [if_pos (by assumption), if_pos (by assumption)] | rw [if_pos (by assumption), if_neg (by assumption)] | rw [if_neg (Int32.not_lt.mpr (by assumption)), if_pos (by assumption)] | rw [if_neg (Int32.not_lt.mpr (by assumption)), if_neg (by assumption)] | (rw [if_pos (Int32.not_le.mp (by assumption)), if_pos (by assumption)]) | (rw [if_pos (Int32.not_le.mp (by assumption)), if_neg (by assumption)])⟩
