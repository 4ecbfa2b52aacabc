/-! Text.watchFault; Past -/
/-- the form that is being read, and how much of it, ahead of the sign k -/
def z_wf (t : Nat → Int32) : Nat → Nat × Nat
  | 0 => (4, 0)
  | k + 1 => if z_ln (z_wf t k).1 ≤ (z_wf t k).2 then (z_fa (t k), 1) else ((z_wf t k).1, (z_wf t k).2 + 1)
def z_wq (t : Nat → Int32) (k : Nat) : Nat × Nat := if z_ln (z_wf t k).1 ≤ (z_wf t k).2 then (z_fa (t k), 0) else z_wf t k
theorem z_wf_succ (t : Nat → Int32) (k : Nat) : z_wf t (k + 1) = ((z_wq t k).1, (z_wq t k).2 + 1) := by
  rw [z_wf, z_wq]
  split <;> rfl
def z_wbad (t : Nat → Int32) (k : Nat) : Prop := k = 60 ∨ z_ln (z_wq t k).1 ≤ (z_wq t k).2 ∨ ¬ z_st (z_ch (z_wq t k).1 (z_wq t k).2) (t k)
def z_waf (t : Nat → Int32) (m : Nat) (r : Int32) : Prop := ∃ x, z_fst (z_wbad t) m x ∧ r = if x = -1 ∧ (z_wf t m).2 < z_ln (z_wf t m).1 then nI m else x
theorem nI_nm1 (k : Nat) (h : k < 2147483648) : ¬ nI k = -1 := by
  intro g
  have g1 := congrArg Int32.toInt g
  rw [nI_toInt h] at g1
  have g2 : (-1 : Int32).toInt = -1 := rfl
  omega
theorem q_X9_watchFault {n : Nat} {sl : Nat × Nat} {kd : Nat → Nat × Nat} {I : Nat → Nat → Int32} {L : Nat → Nat → Int64} {Rf : Nat → Nat → Option Nat} (d : Nat) {i : Nat} (h : eb_txt n kd Rf i) {m : Nat} (hm : I i 1 = nI m) (hm8 : m ≤ 80)  : eb_Q mX9_watchFault (d + 4) [.ref i] (n, sl, kd, I, L, Rf) (eb_rq (z_waf (I (i + 1)) m) (n, sl, kd, I, L, Rf)) := by
  refine ep_meth pn_X.2.2.2.2.2.2.2.2.2.1 (Nat.le_of_ble_eq_true rfl) ?_
  show eb_P mX9_watchFault (d + 4) 0 [(0, .ref i)] [] (n, sl, kd, I, L, Rf) _
  refine ep_ldcS (i := 4) (tx := "") dX9_watchFault_0 (by decide) ?_
  refine ep_astore_n (l' := [(1, .ref (1000000 + 4)), (0, .ref i)]) dX9_watchFault_2 rfl (by decide) rfl ?_
  refine ep_iconst (v := 0) dX9_watchFault_3 (by decide) ?_
  refine ep_istore_n (l' := [(2, .int 0), (1, .ref (1000000 + 4)), (0, .ref i)]) dX9_watchFault_4 rfl (by decide) rfl ?_
  refine ep_iconst (v := 0) dX9_watchFault_5 (by decide) ?_
  refine ep_istore_n (l' := [(3, .int 0), (2, .int 0), (1, .ref (1000000 + 4)), (0, .ref i)]) dX9_watchFault_6 rfl (by decide) rfl ?_
  refine ep_eq (l2 := [(3, .int (nI 0)), (2, .int (nI 0)), (1, .ref (1000000 + 4)), (0, .ref i)]) rfl (by rw [nI_0]) rfl rfl ?_
  refine ep_for m (fun k (a : Nat × Nat) => ([(3, .int (nI k)), (2, .int (nI a.2)), (1, .ref (1000000 + a.1)), (0, .ref i)], (n, sl, kd, I, L, Rf))) (fun k a => a = z_wf (I (i + 1)) k ∧ a.1 < 11 ∧ 1 ≤ a.1 ∧ a.2 ≤ 7 ∧ ∀ q, q < k → ¬ z_wbad (I (i + 1)) q) ?_ ?_ m 0 (4, 0) (by omega) ⟨rfl, by decide, by decide, by decide, fun q hq => absurd hq (Nat.not_lt_zero q)⟩
  · intro k a hk hinv ih
    show eb_P _ _ 7 [(3, .int (nI k)), (2, .int (nI a.2)), (1, .ref (1000000 + a.1)), (0, .ref i)] [] (n, sl, kd, I, L, Rf) _
    have J : ∀ (f dn : Nat), f < 11 → 1 ≤ f → dn ≤ 7 → z_wq (I (i + 1)) k = (f, dn) → eb_P mX9_watchFault (d + 4) 35 [(2, .int (nI dn)), (1, .ref (1000000 + f)), (3, .int (nI k)), (0, .ref i)] [] (n, sl, kd, I, L, Rf) (eb_rq (z_waf (I (i + 1)) m) (n, sl, kd, I, L, Rf)) := by
      intro f dn hi hf1 hdn hq
      refine ep_iload_n (i := 3) dX9_watchFault_35 rfl rfl ?_
      refine ep_bipush (v := 60) dX9_watchFault_36 (by decide) ?_
      refine ep_icmp_eq (tgt := 66) dX9_watchFault_38 (by decide) (fun c1 => ?_) (fun c1 => ?_)
      · skip
        refine ep_iload_n (i := 3) dX9_watchFault_66 rfl rfl ?_
        refine ep_iret dX9_watchFault_67 rfl rfl ?_
        exact ⟨rfl, _, rfl, nI k, Or.inl ⟨k, hk, by rw [z_wbad, hq]; show k = 60 ∨ z_ln f ≤ dn ∨ ¬ z_st (z_ch f dn) (I (i + 1) k); first | exact Or.inr (Or.inr b1) | exact Or.inr (Or.inl ((nI_leI (by have := z_ln7 f hi; omega) (by omega)).mp (by assumption))) | exact Or.inl ((nI_inj2 (a := k) (b := 60) (by omega) (by decide)).mp (by assumption)), hinv.2.2.2.2, rfl⟩, by rw [if_neg (fun g => absurd g.1 (nI_nm1 k (by omega)))]⟩
      · skip
        refine ep_iload_n (i := 2) dX9_watchFault_41 rfl rfl ?_
        refine ep_aload_n (i := 1) dX9_watchFault_42 rfl rfl ?_
        refine ep_callT (M1 := mJ0_length_8abf5) (i := f) (rest := [.int (nI dn)]) hi rfl dX9_watchFault_43 mkX9_34 mcJ0_length_8abf5 mtJ0_length_8abf5 rfl (Nat.le_of_ble_eq_true rfl) rfl (q_J0_length_8abf5 (i := f) (d + 2) hi) eb_rok ?_
        rintro _ _ ⟨rfl, rfl⟩
        show eb_P _ _ 46 [(2, .int (nI dn)), (1, .ref (1000000 + f)), (3, .int (nI k)), (0, .ref i)] (.int (nI (z_ln f)) :: [.int (nI dn)]) _ _
        refine ep_icmp_ge (tgt := 66) dX9_watchFault_46 (by decide) (fun c2 => ?_) (fun c2 => ?_)
        · skip
          refine ep_iload_n (i := 3) dX9_watchFault_66 rfl rfl ?_
          refine ep_iret dX9_watchFault_67 rfl rfl ?_
          exact ⟨rfl, _, rfl, nI k, Or.inl ⟨k, hk, by rw [z_wbad, hq]; show k = 60 ∨ z_ln f ≤ dn ∨ ¬ z_st (z_ch f dn) (I (i + 1) k); first | exact Or.inr (Or.inr b1) | exact Or.inr (Or.inl ((nI_leI (by have := z_ln7 f hi; omega) (by omega)).mp (by assumption))) | exact Or.inl ((nI_inj2 (a := k) (b := 60) (by omega) (by decide)).mp (by assumption)), hinv.2.2.2.2, rfl⟩, by rw [if_neg (fun g => absurd g.1 (nI_nm1 k (by omega)))]⟩
        · skip
          refine ep_aload_n (i := 1) dX9_watchFault_49 rfl rfl ?_
          refine ep_iload_n (i := 2) dX9_watchFault_50 rfl rfl ?_
          refine ep_callT (M1 := mJ0_charAt_5068e) (i := f) (rest := []) hi rfl dX9_watchFault_51 mkX9_54 mcJ0_charAt_5068e mtJ0_charAt_5068e rfl (Nat.le_of_ble_eq_true rfl) rfl (q_J0_charAt_5068e (i := f) (k := dn) d hi ((nI_ltI (by omega) (by have := z_ln7 f hi; omega)).mp (Int32.not_le.mp (by assumption)))) eb_rok ?_
          rintro _ _ ⟨rfl, rfl⟩
          show eb_P _ _ 54 [(2, .int (nI dn)), (1, .ref (1000000 + f)), (3, .int (nI k)), (0, .ref i)] (.int (z_ch f dn) :: []) _ _
          refine ep_aload_n (i := 0) dX9_watchFault_54 rfl rfl ?_
          refine ep_getR dX9_watchFault_55 flX9_9 (by have := h.2.2.2.1; omega) h.1 h.2.2.1 ?_
          refine ep_iload_n (i := 3) dX9_watchFault_58 rfl rfl ?_
          refine ep_iaN dX9_watchFault_59 h.2.2.2.1 h.2.1 (by omega) (by decide) ?_
          refine ep_callS (M1 := mX9_stands) (rest := []) dX9_watchFault_60 mlX9_58 msX9_stands rfl (Nat.le_of_ble_eq_true rfl) rfl (q_X9_stands (d + 2) (z_chs f hi hf1 dn ((nI_ltI (by omega) (by have := z_ln7 f hi; omega)).mp (Int32.not_le.mp (by assumption)))) (I (i + 1) k)) eb_bok ?_
          rintro _ _ ⟨rfl, ⟨b1, rfl⟩ | ⟨b1, rfl⟩⟩
          · show eb_P _ _ 63 [(2, .int (nI dn)), (1, .ref (1000000 + f)), (3, .int (nI k)), (0, .ref i)] (.int 1 :: []) _ _
            refine ep_if_ne (tgt := 68) dX9_watchFault_63 (by decide) (fun c3 => ?_) (fun c3 => absurd (by decide) c3)
            refine ep_iinc (v := (nI (dn + 1))) (l' := [(2, .int ((nI (dn + 1)))), (1, .ref (1000000 + f)), (3, .int (nI k)), (0, .ref i)]) dX9_watchFault_68 rfl (nI_1 _) (by decide) rfl ?_
            refine ep_iinc (v := (nI (k + 1))) (l' := [(3, .int ((nI (k + 1)))), (2, .int ((nI (dn + 1)))), (1, .ref (1000000 + f)), (0, .ref i)]) dX9_watchFault_71 rfl (nI_1 _) (by decide) rfl ?_
            refine ep_goto (tgt := 7) dX9_watchFault_74 (by decide) ?_
            refine ih (f, dn + 1) ⟨by rw [z_wf_succ, hq], hi, hf1, ?_, ?_⟩
            · have g1 : dn < z_ln f := (nI_ltI (by omega) (by have := z_ln7 f hi; omega)).mp (Int32.not_le.mp (by assumption)); have g2 := z_ln7 f hi; show dn + 1 ≤ 7; omega
            · intro q hq2; by_cases hqk : q = k
              · subst hqk; rw [z_wbad, hq]; rintro (g | g | g)
                · exact absurd (congrArg nI g) (by assumption)
                · exact absurd (nI_le g (by omega)) (by assumption)
                · exact g b1
              · exact hinv.2.2.2.2 q (by omega)
          · show eb_P _ _ 63 [(2, .int (nI dn)), (1, .ref (1000000 + f)), (3, .int (nI k)), (0, .ref i)] (.int 0 :: []) _ _
            refine ep_if_ne (tgt := 68) dX9_watchFault_63 (by decide) (fun c4 => absurd c4 (by decide)) (fun c4 => ?_)
            refine ep_iload_n (i := 3) dX9_watchFault_66 rfl rfl ?_
            refine ep_iret dX9_watchFault_67 rfl rfl ?_
            exact ⟨rfl, _, rfl, nI k, Or.inl ⟨k, hk, by rw [z_wbad, hq]; show k = 60 ∨ z_ln f ≤ dn ∨ ¬ z_st (z_ch f dn) (I (i + 1) k); first | exact Or.inr (Or.inr b1) | exact Or.inr (Or.inl ((nI_leI (by have := z_ln7 f hi; omega) (by omega)).mp (by assumption))) | exact Or.inl ((nI_inj2 (a := k) (b := 60) (by omega) (by decide)).mp (by assumption)), hinv.2.2.2.2, rfl⟩, by rw [if_neg (fun g => absurd g.1 (nI_nm1 k (by omega)))]⟩
    refine ep_iload_n (i := 3) dX9_watchFault_7 rfl rfl ?_
    refine ep_aload_n (i := 0) dX9_watchFault_8 rfl rfl ?_
    refine ep_getI dX9_watchFault_9 flX9_15 (by have := h.2.2.2.1; omega) h.1 ?_
    refine ep_topE (y := nI m) hm ?_
    refine ep_icmp_ge (tgt := 77) dX9_watchFault_12 (by decide) (fun c5 => absurd c5 (nI_ge hk (by omega))) (fun c5 => ?_)
    refine ep_iload_n (i := 2) dX9_watchFault_15 rfl rfl ?_
    refine ep_aload_n (i := 1) dX9_watchFault_16 rfl rfl ?_
    refine ep_callT (M1 := mJ0_length_8abf5) (i := a.1) (rest := [.int (nI a.2)]) hinv.2.1 rfl dX9_watchFault_17 mkX9_34 mcJ0_length_8abf5 mtJ0_length_8abf5 rfl (Nat.le_of_ble_eq_true rfl) rfl (q_J0_length_8abf5 (i := a.1) (d + 2) hinv.2.1) eb_rok ?_
    rintro _ _ ⟨rfl, rfl⟩
    show eb_P _ _ 20 [(3, .int (nI k)), (2, .int (nI a.2)), (1, .ref (1000000 + a.1)), (0, .ref i)] (.int (nI (z_ln a.1)) :: [.int (nI a.2)]) _ _
    refine ep_icmp_lt (tgt := 35) dX9_watchFault_20 (by decide) (fun c6 => ?_) (fun c6 => ?_)
    · skip
      refine ep_sub (l' := [(2, .int (nI a.2)), (1, .ref (1000000 + a.1)), (3, .int (nI k)), (0, .ref i)]) [1, 2, 0, 3] rfl ?_
      exact J a.1 a.2 hinv.2.1 hinv.2.2.1 hinv.2.2.2.1 (by rw [z_wq, ← hinv.1, if_neg (by rw [Nat.not_le]; exact (nI_ltI (by have := hinv.2.2.2.1; omega) (by have := z_ln7 a.1 hinv.2.1; omega)).mp (by assumption))])
    · skip
      refine ep_aload_n (i := 0) dX9_watchFault_23 rfl rfl ?_
      refine ep_getR dX9_watchFault_24 flX9_9 (by have := h.2.2.2.1; omega) h.1 h.2.2.1 ?_
      refine ep_iload_n (i := 3) dX9_watchFault_27 rfl rfl ?_
      refine ep_iaN dX9_watchFault_28 h.2.2.2.1 h.2.1 (by omega) (by decide) ?_
      refine ep_callS (M1 := mX9_formOfAct) (rest := []) dX9_watchFault_29 mlX9_50 msX9_formOfAct rfl (Nat.le_of_ble_eq_true rfl) rfl (q_X9_formOfAct (d + 3) (I (i + 1) k)) (fun _ _ g => Or.inl (by rw [g.1])) ?_
      rintro _ _ ⟨rfl, rfl⟩
      show eb_P _ _ 32 [(3, .int (nI k)), (2, .int (nI a.2)), (1, .ref (1000000 + a.1)), (0, .ref i)] (.ref (1000000 + z_fa (I (i + 1) k)) :: []) _ _
      refine ep_astore_n (l' := [(1, .ref (1000000 + z_fa (I (i + 1) k))), (3, .int (nI k)), (2, .int (nI a.2)), (0, .ref i)]) dX9_watchFault_32 rfl (by decide) rfl ?_
      refine ep_iconst (v := 0) dX9_watchFault_33 (by decide) ?_
      refine ep_istore_n (l' := [(2, .int 0), (1, .ref (1000000 + z_fa (I (i + 1) k))), (3, .int (nI k)), (0, .ref i)]) dX9_watchFault_34 rfl (by decide) rfl ?_
      refine ep_eq (l2 := [(2, .int (nI 0)), (1, .ref (1000000 + z_fa (I (i + 1) k))), (3, .int (nI k)), (0, .ref i)]) rfl (by rw [nI_0]) rfl rfl (J (z_fa (I (i + 1) k)) 0 (z_fa_ok _).1 (z_fa_ok _).2 (by omega) (by rw [z_wq, ← hinv.1, if_pos ((nI_leI (by have := z_ln7 a.1 hinv.2.1; omega) (by have := hinv.2.2.2.1; omega)).mp (Int32.not_lt.mp (by assumption)))]))
  · intro a hinv
    show eb_P _ _ 7 [(3, .int (nI m)), (2, .int (nI a.2)), (1, .ref (1000000 + a.1)), (0, .ref i)] [] (n, sl, kd, I, L, Rf) _
    refine ep_iload_n (i := 3) dX9_watchFault_7 rfl rfl ?_
    refine ep_aload_n (i := 0) dX9_watchFault_8 rfl rfl ?_
    refine ep_getI dX9_watchFault_9 flX9_15 (by have := h.2.2.2.1; omega) h.1 ?_
    refine ep_topE (y := nI m) hm ?_
    refine ep_icmp_ge (tgt := 77) dX9_watchFault_12 (by decide) (fun c7 => ?_) (fun c7 => absurd (nI_le (Nat.le_refl _) (by omega)) c7)
    refine ep_iload_n (i := 2) dX9_watchFault_77 rfl rfl ?_
    refine ep_aload_n (i := 1) dX9_watchFault_78 rfl rfl ?_
    refine ep_callT (M1 := mJ0_length_8abf5) (i := a.1) (rest := [.int (nI a.2)]) hinv.2.1 rfl dX9_watchFault_79 mkX9_34 mcJ0_length_8abf5 mtJ0_length_8abf5 rfl (Nat.le_of_ble_eq_true rfl) rfl (q_J0_length_8abf5 (i := a.1) (d + 2) hinv.2.1) eb_rok ?_
    rintro _ _ ⟨rfl, rfl⟩
    show eb_P _ _ 82 [(3, .int (nI m)), (2, .int (nI a.2)), (1, .ref (1000000 + a.1)), (0, .ref i)] (.int (nI (z_ln a.1)) :: [.int (nI a.2)]) _ _
    refine ep_icmp_ge (tgt := 92) dX9_watchFault_82 (by decide) (fun c8 => ?_) (fun c8 => ?_)
    · skip
      refine ep_iconst (v := (-1)) dX9_watchFault_92 (by decide) ?_
      refine ep_iret dX9_watchFault_93 rfl rfl ?_
      exact ⟨rfl, _, rfl, -1, Or.inr ⟨hinv.2.2.2.2, rfl⟩, by first | rw [if_pos ⟨rfl, by rw [← hinv.1]; exact (nI_ltI (by have := hinv.2.2.2.1; omega) (by have := z_ln7 a.1 hinv.2.1; omega)).mp (Int32.not_le.mp (by assumption))⟩] | rw [if_neg (fun g => by have g2 := g.2; rw [← hinv.1] at g2; exact absurd (by assumption) (nI_ge g2 (by have := z_ln7 a.1 hinv.2.1; omega)))]⟩
    · skip
      refine ep_aload_n (i := 0) dX9_watchFault_85 rfl rfl ?_
      refine ep_getI dX9_watchFault_86 flX9_15 (by have := h.2.2.2.1; omega) h.1 ?_
      refine ep_topE (y := nI m) hm ?_
      refine ep_goto (tgt := 93) dX9_watchFault_89 (by decide) ?_
      refine ep_iret dX9_watchFault_93 rfl rfl ?_
      exact ⟨rfl, _, rfl, -1, Or.inr ⟨hinv.2.2.2.2, rfl⟩, by first | rw [if_pos ⟨rfl, by rw [← hinv.1]; exact (nI_ltI (by have := hinv.2.2.2.1; omega) (by have := z_ln7 a.1 hinv.2.1; omega)).mp (Int32.not_le.mp (by assumption))⟩] | rw [if_neg (fun g => by have g2 := g.2; rw [← hinv.1] at g2; exact absurd (by assumption) (nI_ge g2 (by have := z_ln7 a.1 hinv.2.1; omega)))]⟩
