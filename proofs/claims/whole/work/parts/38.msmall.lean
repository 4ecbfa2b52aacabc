/-! the reference: small methods -/
theorem nI_mul (a b : Nat) : nI a * nI b = nI (a * b) := (Int32.ofNat_mul a b).symm
theorem z_in1 {c : Nat} (hc : c ≤ 7) {b : Int32} : (0 ≤ b ∧ b ≤ nI c - 1) ↔ (0 ≤ b ∧ b < nI c) := by
  have h : c = 0 ∨ c = 1 ∨ c = 2 ∨ c = 3 ∨ c = 4 ∨ c = 5 ∨ c = 6 ∨ c = 7 := by omega
  rcases h with rfl | rfl | rfl | rfl | rfl | rfl | rfl | rfl <;> simp only [Int32.lt_iff_toInt_lt, Int32.le_iff_toInt_le] <;> constructor <;> rintro ⟨h1, h2⟩ <;> refine ⟨h1, ?_⟩ <;> (revert h2; generalize b.toInt = z; intro h2; first | (change z ≤ _ at h2; change z < _; simpa using (show z < _ from Int.lt_of_le_of_lt h2 (by decide))) | (change z < _ at h2; change z ≤ _; exact Int.le_of_lt_add_one h2))
theorem z_set_at {I : Nat → Nat → Int32} {i k : Nat} {x : Int32} : z_set I i k x i k = x := by simp [z_set]
theorem z_set_nk {I : Nat → Nat → Int32} {i k a q : Nat} {x : Int32} (h : q ≠ k) : z_set I i k x a q = I a q := by unfold z_set; rw [if_neg (fun e => h e.2)]
theorem eb_b.iff {M : eb_M} {d : Nat} {as : List Value} {σ : eb_S} {c c1 : Prop} (h : zq M d as σ (eb_b c σ)) (e : c ↔ c1) : zq M d as σ (eb_b c1 σ) := by rwa [show c = c1 from propext e] at h

theorem y_X11_lost {n : Nat} {sl : Nat × Nat} {kd : Nat → Nat × Nat} {I : Nat → Nat → Int32} {L : Nat → Nat → Int64} {Rf : Nat → Nat → Option Nat} (d : Nat) (hF : zF n kd Rf)  : zq mX11_lost d [.ref 112] (n, sl, kd, I, L, Rf) (eb_r 0 (n, sl, kd, z_set I 112 9 1, L, Rf)) := by
  intro f B
  refine ez_meth pn_X.2.2.2.2.2.2.2.2.2.2.2 (Nat.le_of_ble_eq_true rfl) ?_
  show ez_P _ _ _ _ _ _ 0 [(0, .ref 112)] [] (n, sl, kd, I, L, Rf) _
  refine ez_aload_n (i := 0) dX11_lost_0 rfl rfl ?_
  refine ez_iconst (v := 1) dX11_lost_1 (by decide) ?_
  refine ez_pI dX11_lost_2 plX11_89 (hF.lt (by decide)) (hF.lx (by decide)) (hF.kc (by decide) rfl) rfl rfl ?_
  refine ez_nmI (fun I1 hI1 => ?_)
  refine ez_iconst (v := 0) dX11_lost_5 (by decide) ?_
  refine ez_iret dX11_lost_6 rfl rfl ?_
  exact ⟨by subst_vars; rfl, rfl⟩
theorem y_X11_isOne0 {n : Nat} {sl : Nat × Nat} {kd : Nat → Nat × Nat} {I : Nat → Nat → Int32} {L : Nat → Nat → Int64} {Rf : Nat → Nat → Option Nat} (d : Nat) (hF : zF n kd Rf) (b : Int32) : zq mX11_isOne (d + 1) [.ref 112, .int b] (n, sl, kd, I, L, Rf) (eb_b (0 ≤ b ∧ b ≤ I 112 1 - 1) (n, sl, kd, I, L, Rf)) := by
  intro f B
  refine ez_meth pn_X.2.2.2.2.2.2.2.2.2.2.2 (Nat.le_of_ble_eq_true rfl) ?_
  show ez_P _ _ _ _ _ _ 0 [(0, .ref 112), (1, .int b)] [] (n, sl, kd, I, L, Rf) _
  refine ez_iload_n (i := 1) dX11_isOne_0 rfl rfl ?_
  refine ez_iconst (v := 0) dX11_isOne_1 (by decide) ?_
  refine ez_aload_n (i := 0) dX11_isOne_2 rfl rfl ?_
  refine ez_getI dX11_isOne_3 flX11_95 (hF.lt (by decide)) (hF.kc (by decide) rfl) ?_
  refine ez_iconst (v := 1) dX11_isOne_6 (by decide) ?_
  refine ez_isub dX11_isOne_7 ?_
  refine ez_callS (M1 := mX11_in) (rest := []) dX11_isOne_8 mlX11_98 msX11_in rfl (Nat.le_of_ble_eq_true rfl) rfl (zq_b (q_X11_in d b 0 (I 112 1 - 1)) (n, sl, kd, I, L, Rf)) eb_bok ?_
  rintro _ _ ⟨rfl, ⟨b1, rfl⟩ | ⟨b1, rfl⟩⟩
  · show ez_P _ _ _ _ _ _ 11 [(0, .ref 112), (1, .int b)] (.int 1 :: []) _ _
    refine ez_iret dX11_isOne_11 rfl (by decide) ?_
    exact ⟨rfl, Or.inl ⟨by assumption, rfl⟩⟩
  · show ez_P _ _ _ _ _ _ 11 [(0, .ref 112), (1, .int b)] (.int 0 :: []) _ _
    refine ez_iret dX11_isOne_11 rfl (by decide) ?_
    exact ⟨rfl, Or.inr ⟨by assumption, rfl⟩⟩
theorem y_X11_isOne {n : Nat} {sl : Nat × Nat} {kd : Nat → Nat × Nat} {I : Nat → Nat → Int32} {L : Nat → Nat → Int64} {Rf : Nat → Nat → Option Nat} (d : Nat) (hF : zF n kd Rf) {c : Nat} (hc : I 112 1 = nI c) (hc7 : c ≤ 7) (b : Int32) : zq mX11_isOne (d + 1) [.ref 112, .int b] (n, sl, kd, I, L, Rf) (eb_b (0 ≤ b ∧ b < nI c) (n, sl, kd, I, L, Rf)) := eb_b.iff (y_X11_isOne0 d hF b) (by rw [hc]; exact z_in1 hc7)
theorem y_X11_all {n : Nat} {sl : Nat × Nat} {kd : Nat → Nat × Nat} {I : Nat → Nat → Int32} {L : Nat → Nat → Int64} {Rf : Nat → Nat → Option Nat} (d : Nat) (hF : zF n kd Rf)  : zq mX11_all d [.ref 112] (n, sl, kd, I, L, Rf) (eb_r ((1 : Int32) <<< (I 112 1 &&& 31) - 1) (n, sl, kd, I, L, Rf)) := by
  intro f B
  refine ez_meth pn_X.2.2.2.2.2.2.2.2.2.2.2 (Nat.le_of_ble_eq_true rfl) ?_
  show ez_P _ _ _ _ _ _ 0 [(0, .ref 112)] [] (n, sl, kd, I, L, Rf) _
  refine ez_iconst (v := 1) dX11_all_0 (by decide) ?_
  refine ez_aload_n (i := 0) dX11_all_1 rfl rfl ?_
  refine ez_getI dX11_all_2 flX11_95 (hF.lt (by decide)) (hF.kc (by decide) rfl) ?_
  refine ez_ishl dX11_all_5 ?_
  refine ez_iconst (v := 1) dX11_all_6 (by decide) ?_
  refine ez_isub dX11_all_7 ?_
  refine ez_iret dX11_all_8 rfl rfl ?_
  exact ⟨rfl, rfl⟩
theorem y_X11_tell {n : Nat} {sl : Nat × Nat} {kd : Nat → Nat × Nat} {I : Nat → Nat → Int32} {L : Nat → Nat → Int64} {Rf : Nat → Nat → Option Nat} (d : Nat) (hF : zF n kd Rf) {k : Nat} (hk : I 112 8 = nI k) (hk2 : k < 16) (v : Int64) : zq mX11_tell d [.ref 112, .long v] (n, sl, kd, I, L, Rf) (eb_v (n, sl, kd, z_set I 112 8 (nI (k + 1)), z_setL L 117 k v, Rf)) := by
  intro f B
  refine ez_meth pn_X.2.2.2.2.2.2.2.2.2.2.2 (Nat.le_of_ble_eq_true rfl) ?_
  show ez_P _ _ _ _ _ _ 0 [(0, .ref 112), (1, .long v)] [] (n, sl, kd, I, L, Rf) _
  refine ez_aload_n (i := 0) dX11_tell_0 rfl rfl ?_
  refine ez_getR dX11_tell_1 flX11_27 (hF.lt (by decide)) (hF.kc (by decide) rfl) (hF.pt 111 rfl) ?_
  refine ez_aload_n (i := 0) dX11_tell_4 rfl rfl ?_
  refine ez_getI dX11_tell_5 flX11_92 (hF.lt (by decide)) (hF.kc (by decide) rfl) ?_
  refine ez_topE (y := nI k) hk ?_
  refine ez_lload_n (i := 1) dX11_tell_8 rfl rfl ?_
  refine ez_lsN (k := k) dX11_tell_9 (hF.lt (by decide)) (hF.ka (by decide) rfl) (by omega) (by decide) ?_
  refine ez_nmL (fun L1 hL1 => ?_)
  refine ez_aload_n (i := 0) dX11_tell_10 rfl rfl ?_
  refine ez_dup dX11_tell_11 rfl ?_
  refine ez_getI dX11_tell_12 flX11_92 (hF.lt (by decide)) (hF.kc (by decide) rfl) ?_
  refine ez_topE (y := nI k) hk ?_
  refine ez_iconst (v := 1) dX11_tell_15 (by decide) ?_
  refine ez_iadd dX11_tell_16 ?_
  refine ez_topE (y := nI (k + 1)) (nI_add _ _) ?_
  refine ez_pI dX11_tell_17 plX11_92 (hF.lt (by decide)) (hF.lx (by decide)) (hF.kc (by decide) rfl) rfl rfl ?_
  refine ez_nmI (fun I2 hI2 => ?_)
  refine ez_vret dX11_tell_20 rfl ?_
  exact ⟨by subst_vars; rfl, rfl⟩
/-- 26 numbers of cell p laid into cell q from u on -/
def z_l26 (I : Nat → Nat → Int32) (p q u k : Nat) : Nat → Nat → Int32 := fun a i => if a = q ∧ u ≤ i ∧ i < u + k then I p (i - u) else I a i
theorem z_l26_0 (I : Nat → Nat → Int32) (p q u : Nat) : z_l26 I p q u 0 = I := by
  funext a i; unfold z_l26; rw [if_neg (by omega)]
theorem z_l26_s {I : Nat → Nat → Int32} {p q u k : Nat} (h : p ≠ q) : z_set (z_l26 I p q u k) q (u + k) (z_l26 I p q u k p k) = z_l26 I p q u (k + 1) := by
  funext a i
  simp only [z_set, z_l26]
  rw [if_neg (show ¬ (p = q ∧ u ≤ k ∧ k < u + k) from fun e => h e.1)]
  by_cases ha : a = q
  · by_cases hi : i = u + k
    · rw [if_pos ⟨ha, hi⟩, if_pos ⟨ha, by omega, by omega⟩]; congr 1; omega
    · rw [if_neg (fun e => hi e.2)]
      by_cases h2 : u ≤ i ∧ i < u + k
      · rw [if_pos ⟨ha, h2.1, h2.2⟩, if_pos ⟨ha, h2.1, by omega⟩]
      · rw [if_neg (fun e => h2 e.2), if_neg (fun e => h2 ⟨e.2.1, by omega⟩)]
  · rw [if_neg (fun e => ha e.1), if_neg (fun e => ha e.1), if_neg (fun e => ha e.1)]
theorem z_l26_ne {I : Nat → Nat → Int32} {p q u k a : Nat} (h : a ≠ q) : z_l26 I p q u k a = I a := by
  funext i; unfold z_l26; rw [if_neg (fun e => h e.1)]
theorem y_X11_lay {n : Nat} {sl : Nat × Nat} {kd : Nat → Nat × Nat} {I : Nat → Nat → Int32} {L : Nat → Nat → Int64} {Rf : Nat → Nat → Option Nat} (d : Nat) (hF : zF n kd Rf) {p q u m : Nat} (hp : p < n ∧ kd p = (20, 26)) (hq : q < n ∧ kd q = (20, m) ∧ m < 2147483648) (hpq : p ≠ q) (hu : u + 26 ≤ m) (hs : 21 ≤ p ∧ p ≠ 112 ∧ p ≠ 121 ∧ 21 ≤ q ∧ q ≠ 112 ∧ q ≠ 121) : zq mX11_lay d [.ref p, .ref q, .int (nI u)] (n, sl, kd, I, L, Rf) (eb_v (n, sl, kd, z_l26 I p q u 26, L, Rf)) := by
  intro f B
  refine ez_meth pn_X.2.2.2.2.2.2.2.2.2.2.2 (Nat.le_of_ble_eq_true rfl) ?_
  show ez_P _ _ _ _ _ _ 0 [(0, .ref p), (1, .ref q), (2, .int (nI u))] [] (n, sl, kd, I, L, Rf) _
  refine ez_iconst (v := 0) dX11_lay_0 (by decide) ?_
  refine ez_istore_n (l' := [(3, .int 0), (0, .ref p), (1, .ref q), (2, .int (nI u))]) dX11_lay_1 rfl (by decide) rfl ?_
  refine ez_eq (σ2 := (n, sl, kd, z_l26 I p q u 0, L, Rf)) rfl rfl rfl (by rw [z_l26_0]) ?_
  refine ez_eq (l2 := [(3, .int (nI 0)), (0, .ref p), (1, .ref q), (2, .int (nI u))]) (σ2 := (n, sl, kd, z_l26 I p q u 0, L, Rf)) rfl (by rw [nI_0]) rfl rfl ?_
  refine ez_for 26 (fun k (a : Unit) => ([(3, .int (nI k)), (0, .ref p), (1, .ref q), (2, .int (nI u))], (n, sl, kd, z_l26 I p q u k, L, Rf))) (fun k a => True) ?_ ?_ 26 0 () (by omega) trivial
  · intro k a hk hinv ih
    show ez_P _ _ _ _ _ _ 2 [(3, .int (nI k)), (0, .ref p), (1, .ref q), (2, .int (nI u))] [] (n, sl, kd, z_l26 I p q u k, L, Rf) _
    refine ez_iload_n (i := 3) dX11_lay_2 rfl rfl ?_
    refine ez_bipush (v := 26) dX11_lay_3 (by decide) ?_
    refine ez_icmp_ge (tgt := 22) dX11_lay_5 (by decide) (fun c1 => absurd c1 (by rw [show (26 : Int32) = nI 26 from rfl]; exact nI_ge hk (by decide))) (fun c1 => ?_)
    refine ez_aload_n (i := 1) dX11_lay_8 rfl rfl ?_
    refine ez_iload_n (i := 2) dX11_lay_9 rfl rfl ?_
    refine ez_iload_n (i := 3) dX11_lay_10 rfl rfl ?_
    refine ez_iadd dX11_lay_11 ?_
    refine ez_topE (y := nI (u + k)) (nI_add _ _) ?_
    refine ez_aload_n (i := 0) dX11_lay_12 rfl rfl ?_
    refine ez_iload_n (i := 3) dX11_lay_13 rfl rfl ?_
    refine ez_iaN (k := k) dX11_lay_14 hp.1 hp.2 (by omega) (by decide) ?_
    refine ez_isN (k := (u + k)) dX11_lay_15 hq.1 (by have := hF.2.1; have := hq.1; omega) hq.2.1 (by omega) (by omega) ?_
    refine ez_nmI (fun I2 hI2 => ?_)
    refine ez_iinc (v := (nI (k + 1))) (l' := [(3, .int ((nI (k + 1)))), (0, .ref p), (1, .ref q), (2, .int (nI u))]) dX11_lay_16 rfl (nI_1 _) (by decide) rfl ?_
    refine ez_goto (tgt := 2) dX11_lay_19 (by decide) ?_
    refine ez_eq (l2 := [(3, .int (nI (k + 1))), (0, .ref p), (1, .ref q), (2, .int (nI u))]) (σ2 := (n, sl, kd, z_l26 I p q u (k + 1), L, Rf)) rfl rfl rfl (by subst_vars; rw [← z_l26_s hpq]) (ih () trivial)
  · intro a hinv
    show ez_P _ _ _ _ _ _ 2 [(3, .int (nI 26)), (0, .ref p), (1, .ref q), (2, .int (nI u))] [] (n, sl, kd, z_l26 I p q u 26, L, Rf) _
    refine ez_iload_n (i := 3) dX11_lay_2 rfl rfl ?_
    refine ez_bipush (v := 26) dX11_lay_3 (by decide) ?_
    refine ez_icmp_ge (tgt := 22) dX11_lay_5 (by decide) (fun c3 => ?_) (fun c3 => absurd (by decide) c3)
    refine ez_vret dX11_lay_22 rfl ?_
    exact ⟨rfl, rfl⟩
theorem y_X11_gravity {n : Nat} {sl : Nat × Nat} {kd : Nat → Nat × Nat} {I : Nat → Nat → Int32} {L : Nat → Nat → Int64} {Rf : Nat → Nat → Option Nat} (d : Nat) (hF : zF n kd Rf) {c : Nat} (hc : I 112 1 = nI c) (hc7 : c ≤ 7) : zq mX11_gravity d [.ref 112] (n, sl, kd, I, L, Rf) (eb_r (z_sum (I 113) c) (n, sl, kd, I, L, Rf)) := by
  intro f B
  refine ez_meth pn_X.2.2.2.2.2.2.2.2.2.2.2 (Nat.le_of_ble_eq_true rfl) ?_
  show ez_P _ _ _ _ _ _ 0 [(0, .ref 112)] [] (n, sl, kd, I, L, Rf) _
  refine ez_iconst (v := 0) dX11_gravity_0 (by decide) ?_
  refine ez_istore_n (l' := [(1, .int 0), (0, .ref 112)]) dX11_gravity_1 rfl (by decide) rfl ?_
  refine ez_iconst (v := 0) dX11_gravity_2 (by decide) ?_
  refine ez_istore_n (l' := [(2, .int 0), (1, .int 0), (0, .ref 112)]) dX11_gravity_3 rfl (by decide) rfl ?_
  refine ez_eq (l2 := [(2, .int (nI 0)), (1, .int (z_sum (I 113) 0)), (0, .ref 112)]) (σ2 := (n, sl, kd, I, L, Rf)) rfl (by rw [nI_0]; rfl) rfl rfl ?_
  refine ez_for c (fun k (a : Unit) => ([(2, .int (nI k)), (1, .int (z_sum (I 113) k)), (0, .ref 112)], (n, sl, kd, I, L, Rf))) (fun k a => True) ?_ ?_ c 0 () (by omega) trivial
  · intro k a hk hinv ih
    show ez_P _ _ _ _ _ _ 4 [(2, .int (nI k)), (1, .int (z_sum (I 113) k)), (0, .ref 112)] [] (n, sl, kd, I, L, Rf) _
    refine ez_iload_n (i := 2) dX11_gravity_4 rfl rfl ?_
    refine ez_aload_n (i := 0) dX11_gravity_5 rfl rfl ?_
    refine ez_getI dX11_gravity_6 flX11_95 (hF.lt (by decide)) (hF.kc (by decide) rfl) ?_
    refine ez_topE (y := nI c) hc ?_
    refine ez_icmp_ge (tgt := 27) dX11_gravity_9 (by decide) (fun c1 => absurd c1 (nI_ge hk (by omega))) (fun c1 => ?_)
    refine ez_iload_n (i := 1) dX11_gravity_12 rfl rfl ?_
    refine ez_aload_n (i := 0) dX11_gravity_13 rfl rfl ?_
    refine ez_getR dX11_gravity_14 flX11_9 (hF.lt (by decide)) (hF.kc (by decide) rfl) (hF.pt 107 rfl) ?_
    refine ez_iload_n (i := 2) dX11_gravity_17 rfl rfl ?_
    refine ez_iaN (k := k) dX11_gravity_18 (hF.lt (by decide)) (hF.ka (by decide) rfl) (by omega) (by decide) ?_
    refine ez_iadd dX11_gravity_19 ?_
    refine ez_istore_n (l' := [(1, .int ((z_sum (I 113) k) + (I 113 k))), (2, .int (nI k)), (0, .ref 112)]) dX11_gravity_20 rfl (by decide) rfl ?_
    refine ez_iinc (v := (nI (k + 1))) (l' := [(2, .int ((nI (k + 1)))), (1, .int ((z_sum (I 113) k) + (I 113 k))), (0, .ref 112)]) dX11_gravity_21 rfl (nI_1 _) (by decide) rfl ?_
    refine ez_goto (tgt := 4) dX11_gravity_24 (by decide) ?_
    refine ez_eq (l2 := [(2, .int (nI (k + 1))), (1, .int (z_sum (I 113) (k + 1))), (0, .ref 112)]) rfl (by rw [z_sum]) rfl rfl (ih () trivial)
  · intro a hinv
    show ez_P _ _ _ _ _ _ 4 [(2, .int (nI c)), (1, .int (z_sum (I 113) c)), (0, .ref 112)] [] (n, sl, kd, I, L, Rf) _
    refine ez_iload_n (i := 2) dX11_gravity_4 rfl rfl ?_
    refine ez_aload_n (i := 0) dX11_gravity_5 rfl rfl ?_
    refine ez_getI dX11_gravity_6 flX11_95 (hF.lt (by decide)) (hF.kc (by decide) rfl) ?_
    refine ez_topE (y := nI c) hc ?_
    refine ez_icmp_ge (tgt := 27) dX11_gravity_9 (by decide) (fun c2 => ?_) (fun c2 => absurd (nI_le (Nat.le_refl _) (by omega)) c2)
    refine ez_iload_n (i := 1) dX11_gravity_27 rfl rfl ?_
    refine ez_iret dX11_gravity_28 rfl rfl ?_
    exact ⟨rfl, rfl⟩
