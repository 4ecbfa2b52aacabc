/-! the class: grave -/
theorem zK.chg {n : Nat} {kd : Nat → Nat × Nat} {I0 g I J : Nat → Nat → Int32} {L0 L : Nat → Nat → Int64} {R0 Rf R1 : Nat → Nat → Option Nat} {T : zT} {G Bf : Option (Nat → Int32)} {w : Bool} {y : Nat → Int32} (h : zK n kd I0 L0 R0 g I L Rf T G Bf w) (hI : ∀ c, c ≠ 103 → c ≠ 104 → c ≠ 102 → c ≠ 25 → J c = I c) (hs : zcS J 25 T.c y) (hR : ∀ c, c ≠ 102 → R1 c = Rf c) (hch : (R1 102 0 = some 103 ∧ R1 102 1 = some 104) ∨ (R1 102 0 = some 104 ∧ R1 102 1 = some 103)) : zK n kd I0 L0 R0 J J L R1 T (some y) Bf w := by
  obtain ⟨a, hS, hu⟩ := h.C.S
  have ha := hS.2.2
  have hI2 : ∀ c, (c < 25 ∨ 25 < c ∧ c < 102 ∨ 104 < c) → J c = I c := fun c hc => hI c (by omega) (by omega) (by omega) (by omega)
  refine ⟨⟨h.C.F.n102 hR, ⟨a, by unfold zS; rw [hR 5 (by decide)]; exact hS, hu.cg (hI2 a (by omega)) (hI2 (a + 1) (by omega))⟩, h.C.tx.cg (hI2 1 (by omega)) (hI2 2 (by omega)), h.C.rw.cg (hI2 3 (by omega)) rfl, by rw [hI2 6 (by omega)]; exact h.C.pr, by rw [hI2 5 (by omega)]; exact h.C.wm, by rw [hI2 7 (by omega)]; exact h.C.wd, h.C.sh.cg (hI2 21 (by omega)) (hI2 22 (by omega)) (hI2 23 (by omega)) (hI2 24 (by omega)), h.C.un.cg (fun c h1 h2 => hI2 c (by omega)), h.C.kp.cg (fun c h1 h2 => hI2 c (by omega)), h.C.sn.cg (fun c h1 h2 => hI2 c (by omega)), h.C.hd.cg (fun c h1 h2 => hI2 c (by omega)), hch, by rw [hI2 1000050 (by omega)]; exact h.C.hm⟩, fun x e => by cases e; exact hs, fun x e => (h.bf x e).cg (hI2 _ (by omega)) (hI2 _ (by omega)) (hI2 _ (by omega)) (hI2 _ (by omega)), fun e b hb => by rw [hI2 108 (by omega)]; exact h.lo e b hb, fun c hc => ⟨(hI2 c (by omega)).trans (h.f c hc).1, (h.f c hc).2.1, (hR c (by omega)).trans (h.f c hc).2.2⟩, fun _ _ => rfl⟩
theorem nI_divN {a b : Nat} (ha : a < 2147483648) (h0 : 0 < b) (hb : b < 2147483648) : nI a / nI b = nI (a / b) := by
  have hd : a / b ≤ a := Nat.div_le_self a b
  rw [← Int32.toInt_inj, Int32.toInt_div, nI_toInt ha, nI_toInt hb, nI_toInt (Nat.lt_of_le_of_lt hd ha), ← Int.ofNat_tdiv]
  generalize a / b = q at hd ⊢
  rw [Int.bmod_eq_of_le (by omega) (by omega)]
theorem nI_remN {a b : Nat} (ha : a < 2147483648) (h0 : 0 < b) (hb : b < 2147483648) : nI a - nI a / nI b * nI b = nI (a % b) := by
  have h1 := Nat.div_add_mod a b
  have e : nI a = nI (a % b) + nI (a / b * b) := by rw [nI_add]; congr 1; rw [Nat.mul_comm]; omega
  rw [nI_divN ha h0 hb, nI_mul]
  conv => lhs; lhs; rw [e]
  rw [Int32.add_sub_cancel]
theorem nI_n0 {b : Nat} (h0 : 0 < b) (hb : b < 2147483648) : ¬ nI b = 0 := fun g => by have := z_nIinj (g.trans nI_0.symm) hb (by decide); omega
/-- how far two numbers have come in k rounds -/
def zeu (a b k x y : Nat) : Prop := Nat.gcd x y = Nat.gcd a b ∧ x < 2147483648 ∧ y < 2147483648 ∧ ((k = 0 ∧ y ≤ 134217728) ∨ (y < x ∧ x * y * 2 ^ k ≤ 2 ^ 55))
theorem zeu_s {a b k x y : Nat} (h : zeu a b k x y) (hy : 0 < y) : zeu a b (k + 1) y (x % y) := by
  obtain ⟨h1, h2, h3, h4⟩ := h
  have hm := Nat.mod_lt x hy
  refine ⟨by rw [← h1, Nat.gcd_comm x y, Nat.gcd_rec y x, Nat.gcd_comm], h3, by omega, Or.inr ⟨hm, ?_⟩⟩
  rcases h4 with ⟨h5, h6⟩ | ⟨h5, h6⟩
  · subst h5
    have : y * (x % y) ≤ 134217728 * 134217728 := Nat.mul_le_mul h6 (by omega)
    have e : (2 : Nat) ^ (0 + 1) = 2 := rfl
    have e2 : (2 : Nat) ^ 55 = 36028797018963968 := by decide
    rw [e, e2]; omega
  · have h7 : x % y + y ≤ x := by
      have h8 := Nat.div_add_mod x y
      have h9 : 1 ≤ x / y := (Nat.one_le_div_iff hy).mpr (by omega)
      have h10 := Nat.mul_le_mul_left y h9
      omega
    have h11 : y * (x % y) * 2 ≤ x * y := by
      have : 2 * (x % y) ≤ x := by omega
      calc y * (x % y) * 2 = y * (2 * (x % y)) := by rw [Nat.mul_assoc, Nat.mul_comm (x % y) 2]
        _ ≤ y * x := Nat.mul_le_mul_left y this
        _ = x * y := Nat.mul_comm _ _
    calc y * (x % y) * 2 ^ (k + 1) = y * (x % y) * 2 * 2 ^ k := by rw [Nat.pow_succ, Nat.mul_comm (2 ^ k) 2, ← Nat.mul_assoc]
      _ ≤ x * y * 2 ^ k := Nat.mul_le_mul_right _ h11
      _ ≤ 2 ^ 55 := h6
theorem zeu_e {a b x y : Nat} (h : zeu a b 64 x y) : y = 0 := by
  obtain ⟨-, -, -, h4⟩ := h
  rcases h4 with ⟨h5, -⟩ | ⟨h5, h6⟩
  · exact absurd h5 (by decide)
  · refine Classical.byContradiction (fun g => ?_)
    have h7 : 1 ≤ x * y := Nat.mul_pos (by omega) (by omega)
    have h8 : 1 * 2 ^ 64 ≤ x * y * 2 ^ 64 := Nat.mul_le_mul_right _ h7
    have h9 : (1 : Nat) * 2 ^ 64 ≤ 2 ^ 55 := Nat.le_trans h8 h6
    exact absurd h9 (by decide)
def zpS0 (n : Nat) (sl : Nat × Nat) (kd : Nat → Nat × Nat) (I : Nat → Nat → Int32) (L : Nat → Nat → Int64) (Rf : Nat → Nat → Option Nat) (i0 a b : Nat) : Option Value → eb_S → Prop := fun r τ => r = none ∧ ∃ J, τ = (n, sl, kd, J, L, Rf) ∧ J 102 2 = 0 ∧ (∀ j, j < 41 → J a j = if i0 = j then 1 else 0) ∧ (∀ j, j < 41 → J b j = 0) ∧ ∀ c, c ≠ a → c ≠ b → c ≠ 102 → J c = I c
theorem zpS0_ok {n : Nat} {sl : Nat × Nat} {kd : Nat → Nat × Nat} {I : Nat → Nat → Int32} {L : Nat → Nat → Int64} {Rf : Nat → Nat → Option Nat} {i0 a b : Nat} {l : List (Nat × Value)} {rest : List Value} : ∀ r1 σ1, zpS0 n sl kd I L Rf i0 a b r1 σ1 → σ1.1 = n ∨ ((∀ q ∈ l, eb_okv n q.2) ∧ ∀ v ∈ rest, eb_okv n v) := fun _ _ h => Or.inl (by obtain ⟨_, _, h, _⟩ := h; rw [h])
theorem q_greatest {n : Nat} {sl : Nat × Nat} {kd : Nat → Nat × Nat} {I : Nat → Nat → Int32} {L : Nat → Nat → Int64} {Rf : Nat → Nat → Option Nat} (d : Nat) {a b : Nat} (ha : a < 2147483648) (hb : b < 2147483648) (hb2 : b ≤ 134217728) : eb_Q mX10_greatestCommon d [.int (nI a), .int (nI b)] (n, sl, kd, I, L, Rf) (eb_r (nI (Nat.gcd a b)) (n, sl, kd, I, L, Rf)) := by
  refine ep_meth pn_X.2.2.2.2.2.2.2.2.2.2.1 (Nat.le_of_ble_eq_true rfl) ?_
  show eb_P _ _ 0 [(0, .int (nI a)), (1, .int (nI b))] [] (n, sl, kd, I, L, Rf) _
  refine ep_iload_n (i := 0) dX10_greatestCommon_0 rfl rfl ?_
  refine ep_istore_n (l' := [(2, .int (nI a)), (0, .int (nI a)), (1, .int (nI b))]) dX10_greatestCommon_1 rfl (by decide) rfl ?_
  refine ep_iload_n (i := 1) dX10_greatestCommon_2 rfl rfl ?_
  refine ep_istore_n (l' := [(3, .int (nI b)), (2, .int (nI a)), (0, .int (nI a)), (1, .int (nI b))]) dX10_greatestCommon_3 rfl (by decide) rfl ?_
  refine ep_iconst (v := 0) dX10_greatestCommon_4 (by decide) ?_
  refine ep_istore (l' := [(4, .int 0), (3, .int (nI b)), (2, .int (nI a)), (0, .int (nI a)), (1, .int (nI b))]) dX10_greatestCommon_5 (by decide) rfl ?_
  refine ep_sub (l' := [(4, .int 0), (3, .int (nI b)), (2, .int (nI a))]) [0, 1, 2] rfl ?_
  refine ep_eq (l2 := [(4, .int (nI 0)), (3, .int (nI b)), (2, .int (nI a))]) (σ2 := (n, sl, kd, I, L, Rf)) rfl (by rw [nI_0]) rfl rfl ?_
  refine ep_for 64 (fun k (z : Nat × Nat) => ([(4, .int (nI k)), (3, .int (nI z.2)), (2, .int (nI z.1))], (n, sl, kd, I, L, Rf))) (fun k z => zeu a b k z.1 z.2) ?_ ?_ 64 0 (a, b) rfl ⟨rfl, ha, hb, Or.inl ⟨rfl, hb2⟩⟩
  · rintro k ⟨zx, zy⟩ hk hz ih
    replace hz : zeu a b k zx zy := hz; have hz2 := hz.2.1; have hz3 := hz.2.2.1
    show eb_P _ _ 7 [(4, .int (nI k)), (3, .int (nI zy)), (2, .int (nI zx))] [] (n, sl, kd, I, L, Rf) _
    refine ep_iload (i := 4) dX10_greatestCommon_7 rfl ?_
    refine ep_bipush (v := 64) dX10_greatestCommon_9 (by decide) ?_
    refine ep_icmp_ge (tgt := 34) dX10_greatestCommon_11 (by decide) (fun c1 => absurd c1 (nI_ge (b := 64) hk (by decide))) (fun c1 => ?_)
    refine ep_iload_n (i := 3) dX10_greatestCommon_14 rfl rfl ?_
    refine ep_if_eq (tgt := 34) dX10_greatestCommon_15 (by decide) (fun c2 => ?_) (fun c2 => ?_)
    · skip
      refine ep_iload_n (i := 2) dX10_greatestCommon_34 rfl rfl ?_
      refine ep_iret dX10_greatestCommon_35 rfl rfl ?_
      exact ⟨rfl, by rw [← hz.1, nI_inj0 c2 (by omega), Nat.gcd_zero_right]⟩
    · skip
      have hy0 : 0 < zy := Nat.pos_of_ne_zero (fun e => c2 (by rw [e]; exact nI_0))
      refine ep_iload_n (i := 2) dX10_greatestCommon_18 rfl rfl ?_
      refine ep_iload_n (i := 3) dX10_greatestCommon_19 rfl rfl ?_
      refine ep_irem dX10_greatestCommon_20 (nI_n0 hy0 (by omega)) ?_
      refine ep_topE (y := nI (zx % zy)) (nI_remN (by omega) hy0 (by omega)) ?_
      refine ep_istore (l' := [(5, .int (nI (zx % zy))), (4, .int (nI k)), (3, .int (nI zy)), (2, .int (nI zx))]) dX10_greatestCommon_21 (by decide) rfl ?_
      refine ep_iload_n (i := 3) dX10_greatestCommon_23 rfl rfl ?_
      refine ep_istore_n (l' := [(2, .int (nI zy)), (5, .int (nI (zx % zy))), (4, .int (nI k)), (3, .int (nI zy))]) dX10_greatestCommon_24 rfl (by decide) rfl ?_
      refine ep_iload (i := 5) dX10_greatestCommon_25 rfl ?_
      refine ep_istore_n (l' := [(3, .int (nI (zx % zy))), (2, .int (nI zy)), (5, .int (nI (zx % zy))), (4, .int (nI k))]) dX10_greatestCommon_27 rfl (by decide) rfl ?_
      refine ep_iinc (v := (nI (k + 1))) (l' := [(4, .int ((nI (k + 1)))), (3, .int (nI (zx % zy))), (2, .int (nI zy)), (5, .int (nI (zx % zy)))]) dX10_greatestCommon_28 rfl (nI_1 _) (by decide) rfl ?_
      refine ep_goto (tgt := 7) dX10_greatestCommon_31 (by decide) ?_
      refine ep_sub (l' := [(4, .int ((nI (k + 1)))), (3, .int (nI (zx % zy))), (2, .int (nI zy))]) [0, 1, 2] rfl ?_
      exact ep_eq (l2 := [(4, .int (nI (k + 1))), (3, .int (nI (zx % zy))), (2, .int (nI zy))]) rfl rfl rfl rfl (ih (zy, zx % zy) (zeu_s hz hy0))
  · rintro ⟨zx, zy⟩ hz
    replace hz : zeu a b 64 zx zy := hz; have hz2 := hz.2.1; have hz3 := hz.2.2.1
    show eb_P _ _ 7 [(4, .int (nI 64)), (3, .int (nI zy)), (2, .int (nI zx))] [] (n, sl, kd, I, L, Rf) _
    refine ep_iload (i := 4) dX10_greatestCommon_7 rfl ?_
    refine ep_bipush (v := 64) dX10_greatestCommon_9 (by decide) ?_
    refine ep_icmp_ge (tgt := 34) dX10_greatestCommon_11 (by decide) (fun c3 => ?_) (fun c3 => absurd (by decide) c3)
    refine ep_iload_n (i := 2) dX10_greatestCommon_34 rfl rfl ?_
    refine ep_iret dX10_greatestCommon_35 rfl rfl ?_
    exact ⟨rfl, by rw [← hz.1, zeu_e hz, Nat.gcd_zero_right]⟩
theorem k_st_103 {n : Nat} {sl : Nat × Nat} {kd : Nat → Nat × Nat} {I : Nat → Nat → Int32} {L : Nat → Nat → Int64} {Rf : Nat → Nat → Option Nat} (d : Nat) (hF : zF n kd Rf) (hRa : Rf 102 0 = some 103) (hRb : Rf 102 1 = some 104) {i0 : Nat} (hi0 : i0 < 41) : zq mX0_start d [.ref 102, .int (nI i0 - 20)] (n, sl, kd, I, L, Rf) (zpS0 n sl kd I L Rf i0 103 104) := by
  intro f B
  refine ez_meth pn_X.1 (Nat.le_of_ble_eq_true rfl) ?_
  show ez_P _ _ _ _ _ _ 0 [(0, .ref 102), (1, .int (nI i0 - 20))] [] (n, sl, kd, I, L, Rf) _
  refine ez_aload_n (i := 0) dX0_start_0 rfl rfl ?_
  refine ez_iconst (v := 0) dX0_start_1 (by decide) ?_
  refine ez_pI dX0_start_2 plX0_18 (hF.lt (by decide)) (hF.lx (by decide)) (hF.kc (by decide) rfl) rfl rfl ?_
  refine ez_nmI (fun I1 hI1 => ?_)
  refine ez_iconst (v := 0) dX0_start_5 (by decide) ?_
  refine ez_istore_n (l' := [(2, .int 0), (0, .ref 102), (1, .int (nI i0 - 20))]) dX0_start_6 rfl (by decide) rfl ?_
  refine ez_sub (l' := [(2, .int 0), (1, .int (nI i0 - 20)), (0, .ref 102)]) [0, 2, 1] rfl ?_
  refine ez_eq (l2 := [(2, .int (nI 0)), (1, .int (nI i0 - 20)), (0, .ref 102)]) (σ2 := (n, sl, kd, I1, L, Rf)) rfl (by rw [nI_0]) rfl rfl ?_
  refine ez_for 41 (fun i (z : Nat → Nat → Int32) => ([(2, .int (nI i)), (1, .int (nI i0 - 20)), (0, .ref 102)], (n, sl, kd, z, L, Rf))) (fun i z => z 102 2 = 0 ∧ (∀ j, j < i → z 103 j = if i0 = j then 1 else 0) ∧ (∀ j, j < i → z 104 j = 0) ∧ ∀ c, c ≠ 103 → c ≠ 104 → c ≠ 102 → z c = I c) ?_ ?_ 41 0 I1 rfl ⟨by rw [hI1, z_set_at], fun j hj => absurd hj (Nat.not_lt_zero j), fun j hj => absurd hj (Nat.not_lt_zero j), fun c _ _ c3 => by rw [hI1, z_set_ne c3]⟩
  · rintro i Ia hi hV ih
    replace hV : Ia 102 2 = 0 ∧ (∀ j, j < i → Ia 103 j = if i0 = j then 1 else 0) ∧ (∀ j, j < i → Ia 104 j = 0) ∧ ∀ c, c ≠ 103 → c ≠ 104 → c ≠ 102 → Ia c = I c := hV
    show ez_P _ _ _ _ _ _ 7 [(2, .int (nI i)), (1, .int (nI i0 - 20)), (0, .ref 102)] [] (n, sl, kd, Ia, L, Rf) _
    refine ez_iload_n (i := 2) dX0_start_7 rfl rfl ?_
    refine ez_bipush (v := 41) dX0_start_8 (by decide) ?_
    refine ez_icmp_ge (tgt := 45) dX0_start_10 (by decide) (fun c2 => absurd c2 (nI_ge (b := 41) hi (by decide))) (fun c2 => ?_)
    refine ez_aload_n (i := 0) dX0_start_13 rfl rfl ?_
    refine ez_getR dX0_start_14 flX0_11 (hF.lt (by decide)) (hF.kc (by decide) rfl) hRa ?_
    refine ez_iload_n (i := 2) dX0_start_17 rfl rfl ?_
    refine ez_iload_n (i := 2) dX0_start_18 rfl rfl ?_
    refine ez_iload_n (i := 1) dX0_start_19 rfl rfl ?_
    refine ez_bipush (v := 20) dX0_start_20 (by decide) ?_
    refine ez_iadd dX0_start_22 ?_
    refine ez_topE (y := nI i0) (Int32.sub_add_cancel _ _) ?_
    refine ez_icmp_ne (tgt := 30) dX0_start_23 (by decide) (fun c3 => ?_) (fun c3 => ?_)
    · skip
      refine ez_iconst (v := 0) dX0_start_30 (by decide) ?_
      refine ez_isN (k := i) dX0_start_31 (hF.lt (by decide)) (hF.lx (by decide)) (hF.ka (by decide) rfl) (by omega) (by decide) ?_
      refine ez_nmI (fun I4 hI4 => ?_)
      refine ez_aload_n (i := 0) dX0_start_32 rfl rfl ?_
      refine ez_getR dX0_start_33 flX0_15 (hF.lt (by decide)) (hF.kc (by decide) rfl) hRb ?_
      refine ez_iload_n (i := 2) dX0_start_36 rfl rfl ?_
      refine ez_iconst (v := 0) dX0_start_37 (by decide) ?_
      refine ez_isN (k := i) dX0_start_38 (hF.lt (by decide)) (hF.lx (by decide)) (hF.ka (by decide) rfl) (by omega) (by decide) ?_
      refine ez_nmI (fun I5 hI5 => ?_)
      refine ez_iinc (v := (nI (i + 1))) (l' := [(2, .int ((nI (i + 1)))), (1, .int (nI i0 - 20)), (0, .ref 102)]) dX0_start_39 rfl (nI_1 _) (by decide) rfl ?_
      refine ez_goto (tgt := 7) dX0_start_42 (by decide) ?_
      exact ez_eq (l2 := [(2, .int (nI (i + 1))), (1, .int (nI i0 - 20)), (0, .ref 102)]) rfl rfl rfl rfl (ih I5 ⟨by rw [hI5, z_set_ne (by decide), hI4, z_set_ne (by decide)]; exact hV.1, fun j hj => by rw [hI5, z_set_ne (by decide), hI4]; by_cases e : j = i; rw [e, z_set_at]; exact (if_neg (fun g => c3 (by rw [g]))).symm; rw [z_set_nk e]; exact hV.2.1 j (by omega), fun j hj => by rw [hI5]; by_cases e : j = i; rw [e, z_set_at]; rw [z_set_nk e, hI4, z_set_ne (by decide)]; exact hV.2.2.1 j (by omega), fun c c1 c2 c3 => by rw [hI5, z_set_ne c2, hI4, z_set_ne c1]; exact hV.2.2.2 c c1 c2 c3⟩)
    · skip
      refine ez_iconst (v := 1) dX0_start_26 (by decide) ?_
      refine ez_goto (tgt := 31) dX0_start_27 (by decide) ?_
      refine ez_isN (k := i) dX0_start_31 (hF.lt (by decide)) (hF.lx (by decide)) (hF.ka (by decide) rfl) (by omega) (by decide) ?_
      refine ez_nmI (fun I6 hI6 => ?_)
      refine ez_aload_n (i := 0) dX0_start_32 rfl rfl ?_
      refine ez_getR dX0_start_33 flX0_15 (hF.lt (by decide)) (hF.kc (by decide) rfl) hRb ?_
      refine ez_iload_n (i := 2) dX0_start_36 rfl rfl ?_
      refine ez_iconst (v := 0) dX0_start_37 (by decide) ?_
      refine ez_isN (k := i) dX0_start_38 (hF.lt (by decide)) (hF.lx (by decide)) (hF.ka (by decide) rfl) (by omega) (by decide) ?_
      refine ez_nmI (fun I7 hI7 => ?_)
      refine ez_iinc (v := (nI (i + 1))) (l' := [(2, .int ((nI (i + 1)))), (1, .int (nI i0 - 20)), (0, .ref 102)]) dX0_start_39 rfl (nI_1 _) (by decide) rfl ?_
      refine ez_goto (tgt := 7) dX0_start_42 (by decide) ?_
      exact ez_eq (l2 := [(2, .int (nI (i + 1))), (1, .int (nI i0 - 20)), (0, .ref 102)]) rfl rfl rfl rfl (ih I7 ⟨by rw [hI7, z_set_ne (by decide), hI6, z_set_ne (by decide)]; exact hV.1, fun j hj => by rw [hI7, z_set_ne (by decide), hI6]; by_cases e : j = i; rw [e, z_set_at]; exact (if_pos (z_nIinj (Classical.not_not.mp c3) (by omega) (by omega)).symm).symm; rw [z_set_nk e]; exact hV.2.1 j (by omega), fun j hj => by rw [hI7]; by_cases e : j = i; rw [e, z_set_at]; rw [z_set_nk e, hI6, z_set_ne (by decide)]; exact hV.2.2.1 j (by omega), fun c c1 c2 c3 => by rw [hI7, z_set_ne c2, hI6, z_set_ne c1]; exact hV.2.2.2 c c1 c2 c3⟩)
  · rintro Ia hV
    replace hV : Ia 102 2 = 0 ∧ (∀ j, j < 41 → Ia 103 j = if i0 = j then 1 else 0) ∧ (∀ j, j < 41 → Ia 104 j = 0) ∧ ∀ c, c ≠ 103 → c ≠ 104 → c ≠ 102 → Ia c = I c := hV
    show ez_P _ _ _ _ _ _ 7 [(2, .int (nI 41)), (1, .int (nI i0 - 20)), (0, .ref 102)] [] (n, sl, kd, Ia, L, Rf) _
    refine ez_iload_n (i := 2) dX0_start_7 rfl rfl ?_
    refine ez_bipush (v := 41) dX0_start_8 (by decide) ?_
    refine ez_icmp_ge (tgt := 45) dX0_start_10 (by decide) (fun c8 => ?_) (fun c8 => absurd (by decide) c8)
    refine ez_vret dX0_start_45 rfl ?_
    exact ⟨rfl, Ia, rfl, hV⟩
theorem k_st_104 {n : Nat} {sl : Nat × Nat} {kd : Nat → Nat × Nat} {I : Nat → Nat → Int32} {L : Nat → Nat → Int64} {Rf : Nat → Nat → Option Nat} (d : Nat) (hF : zF n kd Rf) (hRa : Rf 102 0 = some 104) (hRb : Rf 102 1 = some 103) {i0 : Nat} (hi0 : i0 < 41) : zq mX0_start d [.ref 102, .int (nI i0 - 20)] (n, sl, kd, I, L, Rf) (zpS0 n sl kd I L Rf i0 104 103) := by
  intro f B
  refine ez_meth pn_X.1 (Nat.le_of_ble_eq_true rfl) ?_
  show ez_P _ _ _ _ _ _ 0 [(0, .ref 102), (1, .int (nI i0 - 20))] [] (n, sl, kd, I, L, Rf) _
  refine ez_aload_n (i := 0) dX0_start_0 rfl rfl ?_
  refine ez_iconst (v := 0) dX0_start_1 (by decide) ?_
  refine ez_pI dX0_start_2 plX0_18 (hF.lt (by decide)) (hF.lx (by decide)) (hF.kc (by decide) rfl) rfl rfl ?_
  refine ez_nmI (fun I1 hI1 => ?_)
  refine ez_iconst (v := 0) dX0_start_5 (by decide) ?_
  refine ez_istore_n (l' := [(2, .int 0), (0, .ref 102), (1, .int (nI i0 - 20))]) dX0_start_6 rfl (by decide) rfl ?_
  refine ez_sub (l' := [(2, .int 0), (1, .int (nI i0 - 20)), (0, .ref 102)]) [0, 2, 1] rfl ?_
  refine ez_eq (l2 := [(2, .int (nI 0)), (1, .int (nI i0 - 20)), (0, .ref 102)]) (σ2 := (n, sl, kd, I1, L, Rf)) rfl (by rw [nI_0]) rfl rfl ?_
  refine ez_for 41 (fun i (z : Nat → Nat → Int32) => ([(2, .int (nI i)), (1, .int (nI i0 - 20)), (0, .ref 102)], (n, sl, kd, z, L, Rf))) (fun i z => z 102 2 = 0 ∧ (∀ j, j < i → z 104 j = if i0 = j then 1 else 0) ∧ (∀ j, j < i → z 103 j = 0) ∧ ∀ c, c ≠ 104 → c ≠ 103 → c ≠ 102 → z c = I c) ?_ ?_ 41 0 I1 rfl ⟨by rw [hI1, z_set_at], fun j hj => absurd hj (Nat.not_lt_zero j), fun j hj => absurd hj (Nat.not_lt_zero j), fun c _ _ c3 => by rw [hI1, z_set_ne c3]⟩
  · rintro i Ia hi hV ih
    replace hV : Ia 102 2 = 0 ∧ (∀ j, j < i → Ia 104 j = if i0 = j then 1 else 0) ∧ (∀ j, j < i → Ia 103 j = 0) ∧ ∀ c, c ≠ 104 → c ≠ 103 → c ≠ 102 → Ia c = I c := hV
    show ez_P _ _ _ _ _ _ 7 [(2, .int (nI i)), (1, .int (nI i0 - 20)), (0, .ref 102)] [] (n, sl, kd, Ia, L, Rf) _
    refine ez_iload_n (i := 2) dX0_start_7 rfl rfl ?_
    refine ez_bipush (v := 41) dX0_start_8 (by decide) ?_
    refine ez_icmp_ge (tgt := 45) dX0_start_10 (by decide) (fun c2 => absurd c2 (nI_ge (b := 41) hi (by decide))) (fun c2 => ?_)
    refine ez_aload_n (i := 0) dX0_start_13 rfl rfl ?_
    refine ez_getR dX0_start_14 flX0_11 (hF.lt (by decide)) (hF.kc (by decide) rfl) hRa ?_
    refine ez_iload_n (i := 2) dX0_start_17 rfl rfl ?_
    refine ez_iload_n (i := 2) dX0_start_18 rfl rfl ?_
    refine ez_iload_n (i := 1) dX0_start_19 rfl rfl ?_
    refine ez_bipush (v := 20) dX0_start_20 (by decide) ?_
    refine ez_iadd dX0_start_22 ?_
    refine ez_topE (y := nI i0) (Int32.sub_add_cancel _ _) ?_
    refine ez_icmp_ne (tgt := 30) dX0_start_23 (by decide) (fun c3 => ?_) (fun c3 => ?_)
    · skip
      refine ez_iconst (v := 0) dX0_start_30 (by decide) ?_
      refine ez_isN (k := i) dX0_start_31 (hF.lt (by decide)) (hF.lx (by decide)) (hF.ka (by decide) rfl) (by omega) (by decide) ?_
      refine ez_nmI (fun I4 hI4 => ?_)
      refine ez_aload_n (i := 0) dX0_start_32 rfl rfl ?_
      refine ez_getR dX0_start_33 flX0_15 (hF.lt (by decide)) (hF.kc (by decide) rfl) hRb ?_
      refine ez_iload_n (i := 2) dX0_start_36 rfl rfl ?_
      refine ez_iconst (v := 0) dX0_start_37 (by decide) ?_
      refine ez_isN (k := i) dX0_start_38 (hF.lt (by decide)) (hF.lx (by decide)) (hF.ka (by decide) rfl) (by omega) (by decide) ?_
      refine ez_nmI (fun I5 hI5 => ?_)
      refine ez_iinc (v := (nI (i + 1))) (l' := [(2, .int ((nI (i + 1)))), (1, .int (nI i0 - 20)), (0, .ref 102)]) dX0_start_39 rfl (nI_1 _) (by decide) rfl ?_
      refine ez_goto (tgt := 7) dX0_start_42 (by decide) ?_
      exact ez_eq (l2 := [(2, .int (nI (i + 1))), (1, .int (nI i0 - 20)), (0, .ref 102)]) rfl rfl rfl rfl (ih I5 ⟨by rw [hI5, z_set_ne (by decide), hI4, z_set_ne (by decide)]; exact hV.1, fun j hj => by rw [hI5, z_set_ne (by decide), hI4]; by_cases e : j = i; rw [e, z_set_at]; exact (if_neg (fun g => c3 (by rw [g]))).symm; rw [z_set_nk e]; exact hV.2.1 j (by omega), fun j hj => by rw [hI5]; by_cases e : j = i; rw [e, z_set_at]; rw [z_set_nk e, hI4, z_set_ne (by decide)]; exact hV.2.2.1 j (by omega), fun c c1 c2 c3 => by rw [hI5, z_set_ne c2, hI4, z_set_ne c1]; exact hV.2.2.2 c c1 c2 c3⟩)
    · skip
      refine ez_iconst (v := 1) dX0_start_26 (by decide) ?_
      refine ez_goto (tgt := 31) dX0_start_27 (by decide) ?_
      refine ez_isN (k := i) dX0_start_31 (hF.lt (by decide)) (hF.lx (by decide)) (hF.ka (by decide) rfl) (by omega) (by decide) ?_
      refine ez_nmI (fun I6 hI6 => ?_)
      refine ez_aload_n (i := 0) dX0_start_32 rfl rfl ?_
      refine ez_getR dX0_start_33 flX0_15 (hF.lt (by decide)) (hF.kc (by decide) rfl) hRb ?_
      refine ez_iload_n (i := 2) dX0_start_36 rfl rfl ?_
      refine ez_iconst (v := 0) dX0_start_37 (by decide) ?_
      refine ez_isN (k := i) dX0_start_38 (hF.lt (by decide)) (hF.lx (by decide)) (hF.ka (by decide) rfl) (by omega) (by decide) ?_
      refine ez_nmI (fun I7 hI7 => ?_)
      refine ez_iinc (v := (nI (i + 1))) (l' := [(2, .int ((nI (i + 1)))), (1, .int (nI i0 - 20)), (0, .ref 102)]) dX0_start_39 rfl (nI_1 _) (by decide) rfl ?_
      refine ez_goto (tgt := 7) dX0_start_42 (by decide) ?_
      exact ez_eq (l2 := [(2, .int (nI (i + 1))), (1, .int (nI i0 - 20)), (0, .ref 102)]) rfl rfl rfl rfl (ih I7 ⟨by rw [hI7, z_set_ne (by decide), hI6, z_set_ne (by decide)]; exact hV.1, fun j hj => by rw [hI7, z_set_ne (by decide), hI6]; by_cases e : j = i; rw [e, z_set_at]; exact (if_pos (z_nIinj (Classical.not_not.mp c3) (by omega) (by omega)).symm).symm; rw [z_set_nk e]; exact hV.2.1 j (by omega), fun j hj => by rw [hI7]; by_cases e : j = i; rw [e, z_set_at]; rw [z_set_nk e, hI6, z_set_ne (by decide)]; exact hV.2.2.1 j (by omega), fun c c1 c2 c3 => by rw [hI7, z_set_ne c2, hI6, z_set_ne c1]; exact hV.2.2.2 c c1 c2 c3⟩)
  · rintro Ia hV
    replace hV : Ia 102 2 = 0 ∧ (∀ j, j < 41 → Ia 104 j = if i0 = j then 1 else 0) ∧ (∀ j, j < 41 → Ia 103 j = 0) ∧ ∀ c, c ≠ 104 → c ≠ 103 → c ≠ 102 → Ia c = I c := hV
    show ez_P _ _ _ _ _ _ 7 [(2, .int (nI 41)), (1, .int (nI i0 - 20)), (0, .ref 102)] [] (n, sl, kd, Ia, L, Rf) _
    refine ez_iload_n (i := 2) dX0_start_7 rfl rfl ?_
    refine ez_bipush (v := 41) dX0_start_8 (by decide) ?_
    refine ez_icmp_ge (tgt := 45) dX0_start_10 (by decide) (fun c8 => ?_) (fun c8 => absurd (by decide) c8)
    refine ez_vret dX0_start_45 rfl ?_
    exact ⟨rfl, Ia, rfl, hV⟩
/-- behind k hours: the guessed ship, and the chances -/
def zgW (n : Nat) (kd : Nat → Nat × Nat) (I0 : Nat → Nat → Int32) (L0 : Nat → Nat → Int64) (R0 : Nat → Nat → Option Nat) (T : zT) (p k : Nat) (J : Nat → Nat → Int32) (R1 : Nat → Nat → Option Nat) : Prop := ∃ l a b, (a = 103 ∧ b = 104 ∨ a = 104 ∧ b = 103) ∧ zK n kd I0 L0 R0 J J L0 R1 T (some (zlr T k l)) none false ∧ R1 102 0 = some a ∧ R1 102 1 = some b ∧ (∀ j, j < 41 → J a j = nI (zgwi T p k j)) ∧ (∀ j, j < 41 → J b j = 0) ∧ J 102 2 = nI (zgu T p k)
theorem k_st {n : Nat} {sl : Nat × Nat} {kd : Nat → Nat × Nat} {I : Nat → Nat → Int32} {L : Nat → Nat → Int64} {Rf : Nat → Nat → Option Nat} (d : Nat) (hF : zF n kd Rf) {a b : Nat} (hab : a = 103 ∧ b = 104 ∨ a = 104 ∧ b = 103) (hRa : Rf 102 0 = some a) (hRb : Rf 102 1 = some b) {l : Int32} (hl : z_rg l) : zq mX0_start d [.ref 102, .int l] (n, sl, kd, I, L, Rf) (zpS0 n sl kd I L Rf (l + 20).toNatClampNeg a b) := by
  obtain ⟨i0, hi0, rfl⟩ := hl
  rw [Int32.sub_add_cancel, nI_clamp (by omega)]
  rcases hab with ⟨rfl, rfl⟩ | ⟨rfl, rfl⟩
  · exact k_st_103 d hF hRa hRb hi0
  · exact k_st_104 d hF hRa hRb hi0
theorem k_lhg {n : Nat} {sl : Nat × Nat} {kd : Nat → Nat × Nat} {I : Nat → Nat → Int32} {L : Nat → Nat → Int64} {Rf : Nat → Nat → Option Nat} (d : Nat) {T : zT} {H : Nat} (hC : zC n kd I L Rf T) (hO : zOk H T) (hH : H ≤ 1000000000) {a b : Nat} (hab : a = 103 ∧ b = 104 ∨ a = 104 ∧ b = 103) (hRa : Rf 102 0 = some a) (hRb : Rf 102 1 = some b) {k p0 : Nat} (hk : k < 8) (hp : p0 ≤ 10) {l : Int32} (hg : zcS I 25 T.c (zlr T k l)) (hA : ∀ j, j < 41 → I a j = nI (zgwi T p0 k j)) (hB : ∀ j, j < 41 → I b j = 0) (hov : I 102 2 = nI (zgu T p0 k)) (f : Nat) : ez_Q f (zBm T T.x) f (fun C => C = zBm T T.x) mX0_letHourGo (d + 20) [.ref 102, .ref 5, .ref 25, .int (nI p0)] (n, sl, kd, I, L, Rf) (zpGv n sl kd I L Rf T p0 k a b) := by
  rcases hab with ⟨rfl, rfl⟩ | ⟨rfl, rfl⟩
  · exact k_lhg_103 d hC hO hH hRa hRb hk hp hg hA hB hov f
  · exact k_lhg_104 d hC hO hH hRa hRb hk hp hg hA hB hov f
theorem zlr_0 {T : zT} : zlr T 0 (T.x 22) = T.x := by
  funext q; unfold zlr zup
  by_cases e : q = 25
  · rw [if_pos e, e, nI_0, Int32.add_zero]
  · rw [if_neg e]
    by_cases e2 : q = 22
    · rw [if_pos e2, e2]
    · rw [if_neg e2]
theorem zg_max {g : Nat} (h0 : 0 < g) (h : g < 2147483648) : (if (1 : Int32) < nI g then nI g else 1) = nI g := by
  by_cases e : g = 1
  · subst e; decide
  · rw [if_pos]
    rw [show (1 : Int32) = nI 1 by decide]; exact nI_lt (by omega) h
theorem c_grave_ok {n : Nat} {sl : Nat × Nat} {kd : Nat → Nat × Nat} {I : Nat → Nat → Int32} {L : Nat → Nat → Int64} {Rf : Nat → Nat → Option Nat} (d : Nat) {T : zT} {H : Nat} (hC : zC n kd I L Rf T) (hO : zOk H T) (hH : H ≤ 1000000000) {n0 p0 : Nat} (hn : n0 ≤ 8) (hp : p0 ≤ 10) (f : Nat) (B : Nat → Int32) : ez_Q (f + 100) B f (fun _ => True) mX10_grave (d + 60) [.ref 0, .int (nI n0), .int (nI p0)] (n, sl, kd, I, L, Rf) (zpC n sl kd I L Rf (some (.int (s_graveok T n0 p0).1)) (s_graveok T n0 p0).2) := by
  have hF := hC.F; have hc7 := hO.c
  have hK0 : zK n kd I L Rf I I L Rf T none none false := zK.start hC
  refine ez_meth pn_X.2.2.2.2.2.2.2.2.2.2.1 (Nat.le_of_ble_eq_true rfl) ?_
  have hu := zgu_le (T := T) hp n0; have h10 := zg_10 n0 hn; have h10p : 0 < 10 ^ n0 := Nat.pow_pos (by decide)
  have hgp : 0 < Nat.gcd (zgu T p0 n0) (10 ^ n0) := Nat.gcd_pos_of_pos_right _ h10p
  have hgl : Nat.gcd (zgu T p0 n0) (10 ^ n0) ≤ 10 ^ n0 := Nat.gcd_le_right _ h10p
  have hd1 : zgu T p0 n0 / Nat.gcd (zgu T p0 n0) (10 ^ n0) ≤ zgu T p0 n0 := Nat.div_le_self _ _; have hd2 : 10 ^ n0 / Nat.gcd (zgu T p0 n0) (10 ^ n0) ≤ 10 ^ n0 := Nat.div_le_self _ _
  have hn8 : nI n0 ≤ 8 := by rw [show (8 : Int32) = nI 8 by decide]; exact nI_le hn (by decide)
  have hp10 : nI p0 ≤ 10 := by rw [show (10 : Int32) = nI 10 by decide]; exact nI_le hp (by decide)
  obtain ⟨ca, cb, hab, hRa, hRb⟩ : ∃ ca cb, (ca = 103 ∧ cb = 104 ∨ ca = 104 ∧ cb = 103) ∧ Rf 102 0 = some ca ∧ Rf 102 1 = some cb := by rcases hC.ch with h | h; exact ⟨103, 104, Or.inl ⟨rfl, rfl⟩, h⟩; exact ⟨104, 103, Or.inr ⟨rfl, rfl⟩, h⟩
  show ez_P _ _ _ _ _ _ 0 [(0, .ref 0), (1, .int (nI n0)), (2, .int (nI p0))] [] (n, sl, kd, I, L, Rf) _
  refine ez_iload_n (i := 1) dX10_grave_0 rfl rfl ?_
  refine ez_iconst (v := 0) dX10_grave_1 (by decide) ?_
  refine ez_bipush (v := 8) dX10_grave_2 (by decide) ?_
  refine ez_callS (M1 := mX10_within) (rest := []) dX10_grave_4 mlX10_158 msX10_within rfl (Nat.le_of_ble_eq_true rfl) rfl (zq_b1 (⟨nI_pos' (by omega), hn8⟩) (zq_b (q_X10_within (d + 59) (nI n0) 0 8) (n, sl, kd, I, L, Rf))) eb_rok ?_
  rintro _ _ ⟨rfl, rfl⟩
  show ez_P _ _ _ _ _ _ 7 [(0, .ref 0), (1, .int (nI n0)), (2, .int (nI p0))] (.int 1 :: []) _ _
  refine ez_if_eq (tgt := 20) dX10_grave_7 (by decide) (fun c1 => absurd c1 (by decide)) (fun c1 => ?_)
  refine ez_iload_n (i := 2) dX10_grave_10 rfl rfl ?_
  refine ez_iconst (v := 0) dX10_grave_11 (by decide) ?_
  refine ez_bipush (v := 10) dX10_grave_12 (by decide) ?_
  refine ez_callS (M1 := mX10_within) (rest := []) dX10_grave_14 mlX10_158 msX10_within rfl (Nat.le_of_ble_eq_true rfl) rfl (zq_b1 (⟨nI_pos' (by omega), hp10⟩) (zq_b (q_X10_within (d + 59) (nI p0) 0 10) (n, sl, kd, I, L, Rf))) eb_rok ?_
  rintro _ _ ⟨rfl, rfl⟩
  show ez_P _ _ _ _ _ _ 17 [(0, .ref 0), (1, .int (nI n0)), (2, .int (nI p0))] (.int 1 :: []) _ _
  refine ez_if_ne (tgt := 22) dX10_grave_17 (by decide) (fun c2 => ?_) (fun c2 => absurd (by decide) c2)
  refine ez_aload_n (i := 0) dX10_grave_22 rfl rfl ?_
  refine ez_callVm (M1 := mX10_lookAhead) (rest := []) dX10_grave_23 mlX10_282 mvX10_lookAhead rfl (hF.lt (by decide)) (hF.kc (by decide) rfl) (Nat.le_of_ble_eq_true rfl) rfl (k_look (T := T) (I := I) (L := L) (d + 39) hK0.C hO (f + 99) _) (eb_vok rfl) ?_
  rintro _ _ _ rfl ⟨rfl, rfl⟩
  refine ez_nmI (fun I3 hI3 => ?_)
  show ez_P _ _ _ _ _ _ 26 [(0, .ref 0), (1, .int (nI n0)), (2, .int (nI p0))] [] (n, sl, kd, I3, L, Rf) _
  have hK4 : zK n kd I L Rf I I3 L Rf T (some T.x) none false := by rw [hI3]; exact hK0.cpg
  refine ez_aload_n (i := 0) dX10_grave_26 rfl rfl ?_
  refine ez_getR dX10_grave_27 flX10_80 (hF.lt (by decide)) (hF.kc (by decide) rfl) (hF.pt 99 rfl) ?_
  refine ez_aload_n (i := 0) dX10_grave_30 rfl rfl ?_
  refine ez_getR dX10_grave_31 flX10_37 (hF.lt (by decide)) (hF.kc (by decide) rfl) (hF.pt 25 rfl) ?_
  refine ez_getI dX10_grave_34 flX10_208 (hF.lt (by decide)) (hF.kc (by decide) rfl) ?_
  refine ez_topE (y := T.x 22) (hK4.gs _ rfl).l ?_
  refine ez_callV (M1 := mX0_start) (rest := []) dX10_grave_37 mlX10_384 mvX0_start rfl (hF.lt (by decide)) (hF.kc (by decide) rfl) (Nat.le_of_ble_eq_true rfl) rfl (k_st (I := I3) (L := L) (d + 59) hF hab hRa hRb hO.x.l) zpS0_ok ?_
  rintro _ _ ⟨rfl, J0, rfl, hs1, hs2, hs3, hs4⟩
  show ez_P _ _ _ _ _ _ 40 [(0, .ref 0), (1, .int (nI n0)), (2, .int (nI p0))] [] (n, sl, kd, J0, L, Rf) _
  have hW0 : zgW n kd I L Rf T p0 0 J0 Rf := ⟨T.x 22, ca, cb, hab, hK4.chg (fun c c1 c2 c3 _ => hs4 c (by omega) (by omega) c3) (by rw [zlr_0]; exact (hK4.gs _ rfl).cg (hs4 25 (by omega) (by omega) (by decide)) (hs4 26 (by omega) (by omega) (by decide)) (hs4 27 (by omega) (by omega) (by decide)) (hs4 28 (by omega) (by omega) (by decide))) (fun _ _ => rfl) hC.ch, hRa, hRb, fun j hj => by rw [hs2 j hj, zgwi_0]; split <;> rfl, hs3, by rw [hs1, zgu_0]; rfl⟩
  refine ez_iconst (v := 1) dX10_grave_40 (by decide) ?_
  refine ez_istore_n (l' := [(3, .int 1), (0, .ref 0), (1, .int (nI n0)), (2, .int (nI p0))]) dX10_grave_41 rfl (by decide) rfl ?_
  refine ez_iconst (v := 0) dX10_grave_42 (by decide) ?_
  refine ez_istore (l' := [(4, .int 0), (3, .int 1), (0, .ref 0), (1, .int (nI n0)), (2, .int (nI p0))]) dX10_grave_43 (by decide) rfl ?_
  refine ez_sub (l' := [(4, .int 0), (3, .int 1), (2, .int (nI p0)), (1, .int (nI n0)), (0, .ref 0)]) [0, 1, 4, 3, 2] rfl ?_
  refine ez_eq (l2 := [(4, .int (nI 0)), (3, .int (nI (10 ^ 0))), (2, .int (nI p0)), (1, .int (nI n0)), (0, .ref 0)]) (σ2 := (n, sl, kd, J0, L, Rf)) rfl rfl rfl rfl ?_
  refine ez_for n0 (fun k (z : (Nat → Nat → Int32) × (Nat → Nat → Option Nat)) => ([(4, .int (nI k)), (3, .int (nI (10 ^ k))), (2, .int (nI p0)), (1, .int (nI n0)), (0, .ref 0)], (n, sl, kd, z.1, L, z.2))) (fun k z => zgW n kd I L Rf T p0 k z.1 z.2) ?_ ?_ n0 0 (J0, Rf) (by omega) hW0
  · rintro k ⟨Ia, Ra⟩ hk ⟨lk, za, zb, hzab, hKa, hRza, hRzb, hAa, hBb, hov⟩ ih
    replace hKa : zK n kd I L Rf Ia Ia L Ra T (some (zlr T k lk)) none false := hKa; replace hov : Ia 102 2 = nI (zgu T p0 k) := hov; replace hRza : Ra 102 0 = some za := hRza; replace hRzb : Ra 102 1 = some zb := hRzb
    have hF := hKa.C.F
    show ez_P _ _ _ _ _ _ 45 [(4, .int (nI k)), (3, .int (nI (10 ^ k))), (2, .int (nI p0)), (1, .int (nI n0)), (0, .ref 0)] [] (n, sl, kd, Ia, L, Ra) _
    refine ez_iload (i := 4) dX10_grave_45 rfl ?_
    refine ez_iload_n (i := 1) dX10_grave_47 rfl rfl ?_
    refine ez_icmp_ge (tgt := 78) dX10_grave_48 (by decide) (fun c5 => absurd c5 (nI_ge hk (by omega))) (fun c5 => ?_)
    refine ez_aload_n (i := 0) dX10_grave_51 rfl rfl ?_
    refine ez_getR dX10_grave_52 flX10_80 (hF.lt (by decide)) (hF.kc (by decide) rfl) (hF.pt 99 rfl) ?_
    refine ez_aload_n (i := 0) dX10_grave_55 rfl rfl ?_
    refine ez_getR dX10_grave_56 flX10_26 (hF.lt (by decide)) (hF.kc (by decide) rfl) (hF.pt 4 rfl) ?_
    refine ez_aload_n (i := 0) dX10_grave_59 rfl rfl ?_
    refine ez_getR dX10_grave_60 flX10_37 (hF.lt (by decide)) (hF.kc (by decide) rfl) (hF.pt 25 rfl) ?_
    refine ez_iload_n (i := 2) dX10_grave_63 rfl rfl ?_
    refine ez_callVm (M1 := mX0_letHourGo) (rest := []) dX10_grave_64 mlX10_387 mvX0_letHourGo rfl (hF.lt (by decide)) (hF.kc (by decide) rfl) (Nat.le_of_ble_eq_true rfl) rfl (k_lhg (I := Ia) (L := L) (d + 39) hKa.C hO hH hzab hRza hRzb (by omega) hp (hKa.gs _ rfl) hAa hBb hov (f + 99)) zpGv_ok ?_
    rintro _ _ _ rfl ⟨rfl, J1, R1, l1, rfl, hR01, hRn, hg1, hA1, hB1, hov1, hn1⟩
    show ez_P _ _ _ _ _ _ 67 [(4, .int (nI k)), (3, .int (nI (10 ^ k))), (2, .int (nI p0)), (1, .int (nI n0)), (0, .ref 0)] [] (n, sl, kd, J1, L, R1) _
    have hW1 : zgW n kd I L Rf T p0 (k + 1) J1 R1 := ⟨l1, zb, za, by omega, hKa.chg (fun c c1 c2 c3 c4 => hn1 c (by omega) (by omega) c3 c4) hg1 hRn (by rcases hzab with ⟨e1, e2⟩ | ⟨e1, e2⟩; rw [e1, e2] at hR01; exact Or.inr hR01; rw [e1, e2] at hR01; exact Or.inl hR01), hR01.1, hR01.2, hA1, hB1, hov1⟩
    refine ez_iload_n (i := 3) dX10_grave_67 rfl rfl ?_
    refine ez_bipush (v := 10) dX10_grave_68 (by decide) ?_
    refine ez_imul dX10_grave_70 ?_
    refine ez_topE (y := nI ((10 ^ k) * 10)) (nI_mul _ _) ?_
    refine ez_istore_n (l' := [(3, .int (nI ((10 ^ k) * 10))), (4, .int (nI k)), (2, .int (nI p0)), (1, .int (nI n0)), (0, .ref 0)]) dX10_grave_71 rfl (by decide) rfl ?_
    refine ez_iinc (v := (nI (k + 1))) (l' := [(4, .int ((nI (k + 1)))), (3, .int (nI ((10 ^ k) * 10))), (2, .int (nI p0)), (1, .int (nI n0)), (0, .ref 0)]) dX10_grave_72 rfl (nI_1 _) (by decide) rfl ?_
    refine ez_goto (tgt := 45) dX10_grave_75 (by decide) ?_
    exact ez_eq (l2 := [(4, .int (nI (k + 1))), (3, .int (nI (10 ^ (k + 1)))), (2, .int (nI p0)), (1, .int (nI n0)), (0, .ref 0)]) rfl (by rw [Nat.pow_succ]) rfl rfl (ih (J1, R1) hW1)
  · rintro ⟨Ia, Ra⟩ ⟨lk, za, zb, hzab, hKa, hRza, hRzb, hAa, hBb, hov⟩
    replace hKa : zK n kd I L Rf Ia Ia L Ra T (some (zlr T n0 lk)) none false := hKa; replace hov : Ia 102 2 = nI (zgu T p0 n0) := hov; replace hRza : Ra 102 0 = some za := hRza; replace hRzb : Ra 102 1 = some zb := hRzb
    have hF := hKa.C.F
    show ez_P _ _ _ _ _ _ 45 [(4, .int (nI n0)), (3, .int (nI (10 ^ n0))), (2, .int (nI p0)), (1, .int (nI n0)), (0, .ref 0)] [] (n, sl, kd, Ia, L, Ra) _
    refine ez_iload (i := 4) dX10_grave_45 rfl ?_
    refine ez_iload_n (i := 1) dX10_grave_47 rfl rfl ?_
    refine ez_icmp_ge (tgt := 78) dX10_grave_48 (by decide) (fun c6 => ?_) (fun c6 => absurd (nI_le (Nat.le_refl _) (by omega)) c6)
    refine ez_iconst (v := 1) dX10_grave_78 (by decide) ?_
    refine ez_aload_n (i := 0) dX10_grave_79 rfl rfl ?_
    refine ez_getR dX10_grave_80 flX10_80 (hF.lt (by decide)) (hF.kc (by decide) rfl) (hF.pt 99 rfl) ?_
    refine ez_getI dX10_grave_83 flX10_391 (hF.lt (by decide)) (hF.kc (by decide) rfl) ?_
    refine ez_topE (y := nI (zgu T p0 n0)) ((congrFun (hKa.g 102 (by unfold zgk; omega)) _).trans hov) ?_
    refine ez_iload_n (i := 3) dX10_grave_86 rfl rfl ?_
    refine ez_callS (M1 := mX10_greatestCommon) (rest := [.int 1]) dX10_grave_87 mlX10_394 msX10_greatestCommon rfl (Nat.le_of_ble_eq_true rfl) rfl (fun f7 B7 I7 R7 h7 => (q_greatest (I := I7) (L := L) (Rf := R7) (sl := sl) (kd := kd) (n := n) (d + 59) (a := zgu T p0 n0) (b := 10 ^ n0) (by omega) (by omega) (by omega)).to (by rintro _ _ ⟨rfl, rfl⟩; exact ⟨_, _, B7, rfl, h7, rfl, rfl⟩)) eb_rok ?_
    rintro _ _ ⟨rfl, rfl⟩
    show ez_P _ _ _ _ _ _ 90 [(4, .int (nI n0)), (3, .int (nI (10 ^ n0))), (2, .int (nI p0)), (1, .int (nI n0)), (0, .ref 0)] (.int (nI (Nat.gcd (zgu T p0 n0) (10 ^ n0))) :: [.int 1]) _ _
    refine ez_max dX10_grave_90 xmX10_247 (Nat.le_of_ble_eq_true rfl) ?_
    refine ez_topE (y := nI (Nat.gcd (zgu T p0 n0) (10 ^ n0))) (zg_max hgp (by omega)) ?_
    refine ez_istore (l' := [(4, .int (nI (Nat.gcd (zgu T p0 n0) (10 ^ n0)))), (3, .int (nI (10 ^ n0))), (2, .int (nI p0)), (1, .int (nI n0)), (0, .ref 0)]) dX10_grave_93 (by decide) rfl ?_
    refine ez_aload_n (i := 0) dX10_grave_95 rfl rfl ?_
    refine ez_getR dX10_grave_96 flX10_19 (hF.lt (by decide)) (hF.kc (by decide) rfl) (hF.pt 3 rfl) ?_
    refine ez_aload_n (i := 0) dX10_grave_99 rfl rfl ?_
    refine ez_getR dX10_grave_100 flX10_80 (hF.lt (by decide)) (hF.kc (by decide) rfl) (hF.pt 99 rfl) ?_
    refine ez_getI dX10_grave_103 flX10_391 (hF.lt (by decide)) (hF.kc (by decide) rfl) ?_
    refine ez_topE (y := nI (zgu T p0 n0)) ((congrFun (hKa.g 102 (by unfold zgk; omega)) _).trans hov) ?_
    refine ez_iload (i := 4) dX10_grave_106 rfl ?_
    refine ez_idiv dX10_grave_108 (nI_n0 hgp (by omega)) ?_
    refine ez_topE (y := nI (zgu T p0 n0 / (Nat.gcd (zgu T p0 n0) (10 ^ n0)))) (nI_divN (by omega) hgp (by omega)) ?_
    refine ez_iload_n (i := 3) dX10_grave_109 rfl rfl ?_
    refine ez_iload (i := 4) dX10_grave_110 rfl ?_
    refine ez_idiv dX10_grave_112 (nI_n0 hgp (by omega)) ?_
    refine ez_topE (y := nI (10 ^ n0 / (Nat.gcd (zgu T p0 n0) (10 ^ n0)))) (nI_divN (by omega) hgp (by omega)) ?_
    refine ez_callV (M1 := mX4_tell_) (rest := []) dX10_grave_113 mlX10_204 mvX4_tell_ rfl (hF.lt (by decide)) (hF.kc (by decide) rfl) (Nat.le_of_ble_eq_true rfl) rfl (y_X4_tell_ (I := Ia) (L := L) (d + 58) hF (nI (zgu T p0 n0 / (Nat.gcd (zgu T p0 n0) (10 ^ n0)))) (nI (10 ^ n0 / (Nat.gcd (zgu T p0 n0) (10 ^ n0))))) z_tok ?_
    rintro _ _ ⟨rfl, I7, L8, rfl, hr9, ho10⟩
    show ez_P _ _ _ _ _ _ 116 [(4, .int (nI (Nat.gcd (zgu T p0 n0) (10 ^ n0)))), (3, .int (nI (10 ^ n0))), (2, .int (nI p0)), (1, .int (nI n0)), (0, .ref 0)] [] (n, sl, kd, I7, L8, Ra) _
    have hK11 : zK n kd I L Rf Ia I7 L8 Ra (T.w_rw [(nI (zgu T p0 n0 / (Nat.gcd (zgu T p0 n0) (10 ^ n0)))).toInt64, (nI (10 ^ n0 / (Nat.gcd (zgu T p0 n0) (10 ^ n0)))).toInt64]) (some (zlr T n0 lk)) none false := by exact hKa.tell hr9 ho10
    refine ez_iconst (v := 0) dX10_grave_116 (by decide) ?_
    refine ez_iret dX10_grave_117 rfl rfl ?_
    rw [show s_graveok T n0 p0 = (0, T.w_rw [(nI (zgu T p0 n0 / (Nat.gcd (zgu T p0 n0) (10 ^ n0)))).toInt64, (nI (10 ^ n0 / (Nat.gcd (zgu T p0 n0) (10 ^ n0)))).toInt64]) from by unfold s_graveok; rw [nI_l (by omega), nI_l (by omega)]]
    exact hK11.end
theorem c_grave_no1 {n : Nat} {sl : Nat × Nat} {kd : Nat → Nat × Nat} {I : Nat → Nat → Int32} {L : Nat → Nat → Int64} {Rf : Nat → Nat → Option Nat} (d : Nat) {T : zT} {H : Nat} (hC : zC n kd I L Rf T) (hO : zOk H T) (hH : H ≤ 1000000000) {v u : Int32} (hn : ¬ (0 ≤ v ∧ v ≤ 8)) (f : Nat) (B : Nat → Int32) : ez_Q (f + 100) B f (fun _ => True) mX10_grave (d + 60) [.ref 0, .int v, .int u] (n, sl, kd, I, L, Rf) (zpC n sl kd I L Rf (some (.int (s_grave T v u).1)) (s_grave T v u).2) := by
  have hF := hC.F; have hc7 := hO.c
  have hK0 : zK n kd I L Rf I I L Rf T none none false := zK.start hC
  have hsp : s_grave T v u = ((-1), T) := by unfold s_grave; rw [if_neg (fun g => hn g.1)]
  rw [hsp]
  refine ez_meth pn_X.2.2.2.2.2.2.2.2.2.2.1 (Nat.le_of_ble_eq_true rfl) ?_
  show ez_P _ _ _ _ _ _ 0 [(0, .ref 0), (1, .int v), (2, .int u)] [] (n, sl, kd, I, L, Rf) _
  refine ez_iload_n (i := 1) dX10_grave_0 rfl rfl ?_
  refine ez_iconst (v := 0) dX10_grave_1 (by decide) ?_
  refine ez_bipush (v := 8) dX10_grave_2 (by decide) ?_
  refine ez_callS (M1 := mX10_within) (rest := []) dX10_grave_4 mlX10_158 msX10_within rfl (Nat.le_of_ble_eq_true rfl) rfl (zq_b0 hn (zq_b (q_X10_within (d + 59) v 0 8) (n, sl, kd, I, L, Rf))) eb_rok ?_
  rintro _ _ ⟨rfl, rfl⟩
  show ez_P _ _ _ _ _ _ 7 [(0, .ref 0), (1, .int v), (2, .int u)] (.int 0 :: []) _ _
  refine ez_if_eq (tgt := 20) dX10_grave_7 (by decide) (fun c1 => ?_) (fun c1 => absurd (by decide) c1)
  refine ez_iconst (v := (-1)) dX10_grave_20 (by decide) ?_
  refine ez_iret dX10_grave_21 rfl rfl ?_
  exact hK0.end
theorem c_grave_no2 {n : Nat} {sl : Nat × Nat} {kd : Nat → Nat × Nat} {I : Nat → Nat → Int32} {L : Nat → Nat → Int64} {Rf : Nat → Nat → Option Nat} (d : Nat) {T : zT} {H : Nat} (hC : zC n kd I L Rf T) (hO : zOk H T) (hH : H ≤ 1000000000) {v u : Int32} (hv : 0 ≤ v ∧ v ≤ 8) (hn : ¬ (0 ≤ u ∧ u ≤ 10)) (f : Nat) (B : Nat → Int32) : ez_Q (f + 100) B f (fun _ => True) mX10_grave (d + 60) [.ref 0, .int v, .int u] (n, sl, kd, I, L, Rf) (zpC n sl kd I L Rf (some (.int (s_grave T v u).1)) (s_grave T v u).2) := by
  have hF := hC.F; have hc7 := hO.c
  have hK0 : zK n kd I L Rf I I L Rf T none none false := zK.start hC
  have hsp : s_grave T v u = ((-1), T) := by unfold s_grave; rw [if_neg (fun g => hn g.2)]
  rw [hsp]
  refine ez_meth pn_X.2.2.2.2.2.2.2.2.2.2.1 (Nat.le_of_ble_eq_true rfl) ?_
  show ez_P _ _ _ _ _ _ 0 [(0, .ref 0), (1, .int v), (2, .int u)] [] (n, sl, kd, I, L, Rf) _
  refine ez_iload_n (i := 1) dX10_grave_0 rfl rfl ?_
  refine ez_iconst (v := 0) dX10_grave_1 (by decide) ?_
  refine ez_bipush (v := 8) dX10_grave_2 (by decide) ?_
  refine ez_callS (M1 := mX10_within) (rest := []) dX10_grave_4 mlX10_158 msX10_within rfl (Nat.le_of_ble_eq_true rfl) rfl (zq_b1 hv (zq_b (q_X10_within (d + 59) v 0 8) (n, sl, kd, I, L, Rf))) eb_rok ?_
  rintro _ _ ⟨rfl, rfl⟩
  show ez_P _ _ _ _ _ _ 7 [(0, .ref 0), (1, .int v), (2, .int u)] (.int 1 :: []) _ _
  refine ez_if_eq (tgt := 20) dX10_grave_7 (by decide) (fun c1 => absurd c1 (by decide)) (fun c1 => ?_)
  refine ez_iload_n (i := 2) dX10_grave_10 rfl rfl ?_
  refine ez_iconst (v := 0) dX10_grave_11 (by decide) ?_
  refine ez_bipush (v := 10) dX10_grave_12 (by decide) ?_
  refine ez_callS (M1 := mX10_within) (rest := []) dX10_grave_14 mlX10_158 msX10_within rfl (Nat.le_of_ble_eq_true rfl) rfl (zq_b0 hn (zq_b (q_X10_within (d + 59) u 0 10) (n, sl, kd, I, L, Rf))) eb_rok ?_
  rintro _ _ ⟨rfl, rfl⟩
  show ez_P _ _ _ _ _ _ 17 [(0, .ref 0), (1, .int v), (2, .int u)] (.int 0 :: []) _ _
  refine ez_if_ne (tgt := 22) dX10_grave_17 (by decide) (fun c2 => absurd c2 (by decide)) (fun c2 => ?_)
  refine ez_iconst (v := (-1)) dX10_grave_20 (by decide) ?_
  refine ez_iret dX10_grave_21 rfl rfl ?_
  exact hK0.end
theorem c_grave {n : Nat} {sl : Nat × Nat} {kd : Nat → Nat × Nat} {I : Nat → Nat → Int32} {L : Nat → Nat → Int64} {Rf : Nat → Nat → Option Nat} (d : Nat) {T : zT} {H : Nat} (hC : zC n kd I L Rf T) (hO : zOk H T) (hH : H ≤ 1000000000) (v u : Int32) (f : Nat) (B : Nat → Int32) : ez_Q (f + 100) B f (fun _ => True) mX10_grave (d + 60) [.ref 0, .int v, .int u] (n, sl, kd, I, L, Rf) (zpC n sl kd I L Rf (some (.int (s_grave T v u).1)) (s_grave T v u).2) := by
  by_cases h1 : 0 ≤ v ∧ v ≤ 8
  · by_cases h2 : 0 ≤ u ∧ u ≤ 10
    · obtain ⟨n0, hn, rfl⟩ := pk_of (c := 9) (by decide) h1.1 (by have := h1.2; rw [Int32.lt_iff_toInt_lt]; rw [Int32.le_iff_toInt_le] at this; exact Int.lt_of_le_of_lt this (by decide))
      obtain ⟨p0, hp, rfl⟩ := pk_of (c := 11) (by decide) h2.1 (by have := h2.2; rw [Int32.lt_iff_toInt_lt]; rw [Int32.le_iff_toInt_le] at this; exact Int.lt_of_le_of_lt this (by decide))
      rw [show s_grave T (nI n0) (nI p0) = s_graveok T n0 p0 from by unfold s_grave; rw [if_pos ⟨h1, h2⟩, nI_clamp (by omega), nI_clamp (by omega)]]
      exact c_grave_ok d hC hO hH (by omega) (by omega) f B
    · exact c_grave_no2 d hC hO hH h1 h2 f B
  · exact c_grave_no1 d hC hO hH h1 f B
theorem o_grave {H : Nat} {T : zT} (hO : zOk H T) (v u : Int32) : zOk H (s_grave T v u).2 := by
  unfold s_grave
  split
  · exact ⟨hO.txl, hO.tx, by show 2 ≤ 8; omega, hO.pr, hO.wm, hO.wd, hO.c, hO.x, hO.unl, hO.un, hO.kp, hO.snl, hO.sn, hO.hdl, hO.hd, hO.rv⟩
  · exact hO
theorem o_law {H : Nat} {T : zT} (hO : zOk H T) : zOk H (s_law T).2 := by
  unfold s_law
  split
  · have h := hO.wt0
    exact ⟨h.txl, h.tx, by show 4 ≤ 8; omega, h.pr, h.wm, h.wd, h.c, h.x, h.unl, h.un, h.kp, h.snl, h.sn, h.hdl, h.hd, h.rv⟩
  · exact hO.wt0
