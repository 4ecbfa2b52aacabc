/-! Rule.takeThing, takeJoint -/
theorem ep_cut {M : eb_M} {d pc pc2 : Nat} {l l2 : List (Nat × Value)} {st st2 : List Value} {σ σ2 : eb_S} {Φ : Option Value → eb_S → Prop} (k : eb_P M d pc2 l2 st2 σ2 Φ) (f : eb_P M d pc2 l2 st2 σ2 Φ → eb_P M d pc l st σ Φ) : eb_P M d pc l st σ Φ := f k
theorem z_b2n (b : Bool) : narrow .boolean (.int (z_b2 b)) = .int (z_b2 b) := by cases b <;> rfl
theorem z_b2f (b : Bool) : fits .boolean (.int (z_b2 b)) = true := by cases b <;> rfl
theorem z_b2v (b : Bool) : vp_nar .boolean (z_b2 b) = z_b2 b := by cases b <;> decide
theorem z_or1 {b c : Bool} (h : z_b2 b ≠ 0) : (1 : Int32) = z_b2 (b || c) := by cases b; exact absurd rfl h; rfl
theorem z_or2 {b c : Bool} (h : c = true) : (1 : Int32) = z_b2 (b || c) := by subst h; cases b <;> rfl
theorem z_or3 {b c : Bool} (h : ¬ z_b2 b ≠ 0) (g : ¬ c = true) : (0 : Int32) = z_b2 (b || c) := by cases b <;> cases c <;> first | rfl | exact absurd rfl g | exact absurd (show z_b2 true ≠ 0 by decide) h
def z_tt (s : Int32) (R : z_R) : Option z_R :=
  if s = 45 then some (R.1, 256 :: R.2.1, R.2.2)
  else if s = 40 then z_op R
  else if 48 ≤ s ∧ s ≤ 57 then some (R.1 ++ [s - 48], R.2.1, R.2.2.1, 1, false, R.2.2.2.2.2.1, R.2.2.2.2.2.2.1 || decide (s = 108), R.2.2.2.2.2.2.2 || decide (s = 110))
  else if z_li s < 0 then none
  else some (R.1 ++ [-1 - z_li s], R.2.1, R.2.2.1, 0, false, R.2.2.2.2.2.1, R.2.2.2.2.2.2.1 || decide (s = 108), R.2.2.2.2.2.2.2 || decide (s = 110))
def z_cmp (s : Int32) (R : z_R) : z_R := (R.1, R.2.1, R.2.2.1, R.2.2.2.1, R.2.2.2.2.1, (fun q => if q = R.2.2.1 then R.2.2.2.2.2.1 R.2.2.1 || decide (z_rk s = 1) else R.2.2.2.2.2.1 q), R.2.2.2.2.2.2)
def z_tj (s : Int32) (R : z_R) : Option z_R :=
  if 48 ≤ s ∧ s ≤ 57 then z_ln3 (s - 48) R
  else if s = 41 then z_cl R
  else if z_rk s = 0 ∨ (z_rk s = 1 ∧ R.2.2.2.2.2.1 R.2.2.1 = true) then none
  else some ((z_rel (z_rk s) R).1, s :: (z_rel (z_rk s) R).2.1, R.2.2.1, 0, true, (z_cmp s R).2.2.2.2.2.1, R.2.2.2.2.2.2)
theorem z_rl_le (rank : Int32) (wt pg : List Int32) : (z_rl rank wt pg).1.length ≤ wt.length := by
  induction wt generalizing pg with
  | nil => exact Nat.le_refl _
  | cons s wt ih =>
    rw [z_rl]
    split
    · exact Nat.le_refl _
    · exact Nat.le_trans (ih _) (Nat.le_succ _)
theorem q_X5_takeThing {n : Nat} {sl : Nat × Nat} {kd : Nat → Nat × Nat} {I : Nat → Nat → Int32} {L : Nat → Nat → Int64} {Rf : Nat → Nat → Option Nat} (d : Nat) {i : Nat} (h : eb_rul n kd Rf i) {R : z_R} (hR : z_RI I i R) (hl : R.1.length + R.2.1.length < 40) (hdp : R.2.2.1 ≤ 4) {x : Nat} (hx : x < 256) : eb_Q mX5_takeThing (d + 4) [.ref i, .int (nI x)] (n, sl, kd, I, L, Rf) (z_oq n sl kd L Rf I i (z_tt (nI x) R)) := by
  refine ep_meth pn_X.2.2.2.2.2.1 (Nat.le_of_ble_eq_true rfl) ?_
  show eb_P mX5_takeThing (d + 4) 0 [(0, .ref i), (1, .int (nI x))] [] (n, sl, kd, I, L, Rf) _
  refine ep_iload_n (i := 1) dX5_takeThing_0 rfl rfl ?_
  refine ep_bipush (v := 45) dX5_takeThing_1 (by decide) ?_
  refine ep_icmp_ne (tgt := 15) dX5_takeThing_3 (by decide) (fun c1 => ?_) (fun c1 => ?_)
  · skip
    refine ep_iload_n (i := 1) dX5_takeThing_15 rfl rfl ?_
    refine ep_bipush (v := 40) dX5_takeThing_16 (by decide) ?_
    refine ep_icmp_ne (tgt := 26) dX5_takeThing_18 (by decide) (fun c2 => ?_) (fun c2 => ?_)
    · skip
      refine ep_ldcS (i := 0) (tx := "gtkplin") dX5_takeThing_26 (by decide) ?_
      refine ep_iload_n (i := 1) dX5_takeThing_28 rfl rfl ?_
      refine ep_i2c dX5_takeThing_29 rfl ?_
      refine ep_topE (y := nI x) (z_c16 x hx) ?_
      refine ep_callT (M1 := mJ0_indexOf_0f7a4) (i := 0) (rest := []) (by decide) rfl dX5_takeThing_30 mkX5_85 mcJ0_indexOf_0f7a4 mtJ0_indexOf_0f7a4 rfl (Nat.le_of_ble_eq_true rfl) rfl (q_J0_indexOf_0f7a4 d hx) eb_rok ?_
      rintro _ _ ⟨rfl, rfl⟩
      show eb_P _ _ 33 [(0, .ref i), (1, .int (nI x))] (.int (z_li (nI x)) :: []) _ _
      refine ep_istore_n (l' := [(2, .int (z_li (nI x))), (0, .ref i), (1, .int (nI x))]) dX5_takeThing_33 rfl (by decide) rfl ?_
      refine ep_iload_n (i := 1) dX5_takeThing_34 rfl rfl ?_
      refine ep_bipush (v := 48) dX5_takeThing_35 (by decide) ?_
      refine ep_bipush (v := 57) dX5_takeThing_37 (by decide) ?_
      refine ep_callS (M1 := mX10_within) (rest := []) dX5_takeThing_39 mlX5_90 msX10_within rfl (Nat.le_of_ble_eq_true rfl) rfl (q_X10_within (d + 3) (nI x) 48 57 (n, sl, kd, I, L, Rf)) eb_bok ?_
      rintro _ _ ⟨rfl, ⟨hdg, rfl⟩ | ⟨hdg, rfl⟩⟩
      · show eb_P _ _ 42 [(2, .int (z_li (nI x))), (0, .ref i), (1, .int (nI x))] (.int 1 :: []) _ _
        refine ep_istore_n (l' := [(3, .int 1), (2, .int (z_li (nI x))), (0, .ref i), (1, .int (nI x))]) dX5_takeThing_42 rfl (by decide) rfl ?_
        refine ep_iload_n (i := 2) dX5_takeThing_43 rfl rfl ?_
        refine ep_if_ge (tgt := 53) dX5_takeThing_44 (by decide) (fun c3 => ?_) (fun c3 => ?_)
        · skip
          refine ep_aload_n (i := 0) dX5_takeThing_53 rfl rfl ?_
          refine ep_iload_n (i := 3) dX5_takeThing_54 rfl rfl ?_
          refine ep_if_eq (tgt := 65) dX5_takeThing_55 (by decide) (fun c4 => absurd c4 (by decide)) (fun c4 => ?_)
          refine ep_iload_n (i := 1) dX5_takeThing_58 rfl rfl ?_
          refine ep_bipush (v := 48) dX5_takeThing_59 (by decide) ?_
          refine ep_isub dX5_takeThing_61 ?_
          refine ep_goto (tgt := 68) dX5_takeThing_62 (by decide) ?_
          refine ep_callV (M1 := mX5_emit) (rest := []) dX5_takeThing_68 mlX5_94 mvX5_emit rfl (by have := h.2.2.2.2.2.2.2.2.2.1; omega) h.1 (Nat.le_of_ble_eq_true rfl) rfl (q_X5_emit (d + 3) h hR (by omega) ((nI x) - 48)) z_rqok ?_
          rintro _ _ ⟨rfl, Ie5, rfl, hRe5, hoe5⟩
          show eb_P _ _ 71 [(3, .int 1), (2, .int (z_li (nI x))), (0, .ref i), (1, .int (nI x))] [] (n, sl, kd, Ie5, L, Rf) _
          have o6 : z_only (z_rc i) I Ie5 := z_only.tr (z_only.rf) hoe5
          refine ep_aload_n (i := 0) dX5_takeThing_71 rfl rfl ?_
          refine ep_iload_n (i := 3) dX5_takeThing_72 rfl rfl ?_
          refine ep_if_eq (tgt := 80) dX5_takeThing_73 (by decide) (fun c7 => absurd c7 (by decide)) (fun c7 => ?_)
          refine ep_iconst (v := 1) dX5_takeThing_76 (by decide) ?_
          refine ep_goto (tgt := 81) dX5_takeThing_77 (by decide) ?_
          refine ep_pI dX5_takeThing_81 plX5_67 (by have := h.2.2.2.2.2.2.2.2.2.1; omega) (by have := h.2.2.2.2.2.2.2.2.2; omega) h.1 rfl rfl ?_
          refine ep_nmI (fun I8 hI8 => ?_)
          have o9 : z_only (z_rc i) I I8 := z_only.tr (o6) (fun b hb => by rw [hI8, z_set_ne (fun e => hb (by unfold z_rc; omega))])
          refine ep_cut (pc2 := 103) (l2 := [(3, .int 1), (2, .int (z_li (nI x))), (0, .ref i), (1, .int (nI x))]) (st2 := [.int (z_b2 (R.2.2.2.2.2.2.1 || decide (nI x = 108))), .ref i]) (σ2 := (n, sl, kd, I8, L, Rf)) ?_ (fun K84 => ?_)
          · skip
            refine ep_pI dX5_takeThing_103 plX5_70 (by have := h.2.2.2.2.2.2.2.2.2.1; omega) (by have := h.2.2.2.2.2.2.2.2.2; omega) h.1 (z_b2n _) (z_b2f _) ?_
            refine ep_nmI (fun I10 hI10 => ?_)
            have o11 : z_only (z_rc i) I I10 := z_only.tr (o9) (fun b hb => by rw [hI10, z_set_ne (fun e => hb (by unfold z_rc; omega))])
            refine ep_cut (pc2 := 125) (l2 := [(3, .int 1), (2, .int (z_li (nI x))), (0, .ref i), (1, .int (nI x))]) (st2 := [.int (z_b2 (R.2.2.2.2.2.2.2 || decide (nI x = 110))), .ref i]) (σ2 := (n, sl, kd, I10, L, Rf)) ?_ (fun K106 => ?_)
            · skip
              refine ep_pI dX5_takeThing_125 plX5_73 (by have := h.2.2.2.2.2.2.2.2.2.1; omega) (by have := h.2.2.2.2.2.2.2.2.2; omega) h.1 (z_b2n _) (z_b2f _) ?_
              refine ep_nmI (fun I12 hI12 => ?_)
              have o13 : z_only (z_rc i) I I12 := z_only.tr (o11) (fun b hb => by rw [hI12, z_set_ne (fun e => hb (by unfold z_rc; omega))])
              refine ep_aload_n (i := 0) dX5_takeThing_128 rfl rfl ?_
              refine ep_iconst (v := 0) dX5_takeThing_129 (by decide) ?_
              refine ep_pI dX5_takeThing_130 plX5_37 (by have := h.2.2.2.2.2.2.2.2.2.1; omega) (by have := h.2.2.2.2.2.2.2.2.2; omega) h.1 rfl rfl ?_
              refine ep_nmI (fun I14 hI14 => ?_)
              have o15 : z_only (z_rc i) I I14 := z_only.tr (o13) (fun b hb => by rw [hI14, z_set_ne (fun e => hb (by unfold z_rc; omega))])
              refine ep_iconst (v := 1) dX5_takeThing_133 (by decide) ?_
              refine ep_iret dX5_takeThing_134 rfl rfl ?_
              have e : z_tt (nI x) R = some (R.1 ++ [nI x - 48], R.2.1, R.2.2.1, 1, false, R.2.2.2.2.2.1, R.2.2.2.2.2.2.1 || decide (nI x = 108), R.2.2.2.2.2.2.2 || decide (nI x = 110)) := by rw [z_tt, if_neg c1, if_neg (by assumption), if_pos hdg]
              exact ⟨by rw [e]; rfl, _, rfl, fun _ g => (by rw [e] at g; cases g; obtain ⟨⟨a1, a2⟩, ⟨a3, a4⟩, a5, a6, a7, a8, a9, a10⟩ := hRe5; exact ⟨⟨by simpa [hI8, hI10, hI12, hI14, z_set, z_rel, z_cmp] using a1, fun k hk => by rw [show I14 (i + 1) = Ie5 (i + 1) from by rw [hI14, z_set_ne (by omega), hI12, z_set_ne (by omega), hI10, z_set_ne (by omega), hI8, z_set_ne (by omega)]]; exact a2 k hk⟩, ⟨by simpa [hI8, hI10, hI12, hI14, z_set, z_rel, z_cmp] using a3, by rw [show I14 (i + 2) = Ie5 (i + 2) from by rw [hI14, z_set_ne (by omega), hI12, z_set_ne (by omega), hI10, z_set_ne (by omega), hI8, z_set_ne (by omega)]]; exact a4⟩, by simpa [hI8, hI10, hI12, hI14, z_set, z_rel, z_cmp] using a5, by exact (show I14 i 7 = 1 from by simp [hI8, hI10, hI12, hI14, z_set]).trans (by decide : (1 : Int32) = nI 1), by simp [hI8, hI10, hI12, hI14, z_set, z_b2], fun q hq => by rw [show I14 (i + 4) = Ie5 (i + 4) from by rw [hI14, z_set_ne (by omega), hI12, z_set_ne (by omega), hI10, z_set_ne (by omega), hI8, z_set_ne (by omega)]]; exact a8 q hq, by simp [hI8, hI10, hI12, hI14, z_set], by simp [hI8, hI10, hI12, hI14, z_set]⟩), o15⟩
            · skip
              refine ep_aload_n (i := 0) dX5_takeThing_106 rfl rfl ?_
              refine ep_aload_n (i := 0) dX5_takeThing_107 rfl rfl ?_
              refine ep_getI dX5_takeThing_108 flX5_73 (by have := h.2.2.2.2.2.2.2.2.2.1; omega) h.1 ?_
              refine ep_topE (y := z_b2 R.2.2.2.2.2.2.2) (by simpa [hI8, hI10, z_set] using hRe5.2.2.2.2.2.2.2) ?_
              refine ep_if_ne (tgt := 120) dX5_takeThing_111 (by decide) (fun c16 => ?_) (fun c16 => ?_)
              · skip
                refine ep_iconst (v := 1) dX5_takeThing_120 (by decide) ?_
                refine ep_goto (tgt := 125) dX5_takeThing_121 (by decide) ?_
                exact ep_topE (by first | exact z_or1 (by assumption) | exact z_or2 (decide_eq_true (Classical.not_not.mp (by assumption))) | exact z_or3 (by assumption) (fun g => absurd (of_decide_eq_true g) (by assumption))) K106
              · skip
                refine ep_iload_n (i := 1) dX5_takeThing_114 rfl rfl ?_
                refine ep_bipush (v := 110) dX5_takeThing_115 (by decide) ?_
                refine ep_icmp_ne (tgt := 124) dX5_takeThing_117 (by decide) (fun c17 => ?_) (fun c17 => ?_)
                · skip
                  refine ep_iconst (v := 0) dX5_takeThing_124 (by decide) ?_
                  exact ep_topE (by first | exact z_or1 (by assumption) | exact z_or2 (decide_eq_true (Classical.not_not.mp (by assumption))) | exact z_or3 (by assumption) (fun g => absurd (of_decide_eq_true g) (by assumption))) K106
                · skip
                  refine ep_iconst (v := 1) dX5_takeThing_120 (by decide) ?_
                  refine ep_goto (tgt := 125) dX5_takeThing_121 (by decide) ?_
                  exact ep_topE (by first | exact z_or1 (by assumption) | exact z_or2 (decide_eq_true (Classical.not_not.mp (by assumption))) | exact z_or3 (by assumption) (fun g => absurd (of_decide_eq_true g) (by assumption))) K106
          · skip
            refine ep_aload_n (i := 0) dX5_takeThing_84 rfl rfl ?_
            refine ep_aload_n (i := 0) dX5_takeThing_85 rfl rfl ?_
            refine ep_getI dX5_takeThing_86 flX5_70 (by have := h.2.2.2.2.2.2.2.2.2.1; omega) h.1 ?_
            refine ep_topE (y := z_b2 R.2.2.2.2.2.2.1) (by simpa [hI8, z_set] using hRe5.2.2.2.2.2.2.1) ?_
            refine ep_if_ne (tgt := 98) dX5_takeThing_89 (by decide) (fun c18 => ?_) (fun c18 => ?_)
            · skip
              refine ep_iconst (v := 1) dX5_takeThing_98 (by decide) ?_
              refine ep_goto (tgt := 103) dX5_takeThing_99 (by decide) ?_
              exact ep_topE (by first | exact z_or1 (by assumption) | exact z_or2 (decide_eq_true (Classical.not_not.mp (by assumption))) | exact z_or3 (by assumption) (fun g => absurd (of_decide_eq_true g) (by assumption))) K84
            · skip
              refine ep_iload_n (i := 1) dX5_takeThing_92 rfl rfl ?_
              refine ep_bipush (v := 108) dX5_takeThing_93 (by decide) ?_
              refine ep_icmp_ne (tgt := 102) dX5_takeThing_95 (by decide) (fun c19 => ?_) (fun c19 => ?_)
              · skip
                refine ep_iconst (v := 0) dX5_takeThing_102 (by decide) ?_
                exact ep_topE (by first | exact z_or1 (by assumption) | exact z_or2 (decide_eq_true (Classical.not_not.mp (by assumption))) | exact z_or3 (by assumption) (fun g => absurd (of_decide_eq_true g) (by assumption))) K84
              · skip
                refine ep_iconst (v := 1) dX5_takeThing_98 (by decide) ?_
                refine ep_goto (tgt := 103) dX5_takeThing_99 (by decide) ?_
                exact ep_topE (by first | exact z_or1 (by assumption) | exact z_or2 (decide_eq_true (Classical.not_not.mp (by assumption))) | exact z_or3 (by assumption) (fun g => absurd (of_decide_eq_true g) (by assumption))) K84
        · skip
          refine ep_iload_n (i := 3) dX5_takeThing_47 rfl rfl ?_
          refine ep_if_ne (tgt := 53) dX5_takeThing_48 (by decide) (fun c20 => ?_) (fun c20 => absurd (by decide) c20)
          refine ep_aload_n (i := 0) dX5_takeThing_53 rfl rfl ?_
          refine ep_iload_n (i := 3) dX5_takeThing_54 rfl rfl ?_
          refine ep_if_eq (tgt := 65) dX5_takeThing_55 (by decide) (fun c21 => absurd c21 (by decide)) (fun c21 => ?_)
          refine ep_iload_n (i := 1) dX5_takeThing_58 rfl rfl ?_
          refine ep_bipush (v := 48) dX5_takeThing_59 (by decide) ?_
          refine ep_isub dX5_takeThing_61 ?_
          refine ep_goto (tgt := 68) dX5_takeThing_62 (by decide) ?_
          refine ep_callV (M1 := mX5_emit) (rest := []) dX5_takeThing_68 mlX5_94 mvX5_emit rfl (by have := h.2.2.2.2.2.2.2.2.2.1; omega) h.1 (Nat.le_of_ble_eq_true rfl) rfl (q_X5_emit (d + 3) h hR (by omega) ((nI x) - 48)) z_rqok ?_
          rintro _ _ ⟨rfl, Ie22, rfl, hRe22, hoe22⟩
          show eb_P _ _ 71 [(3, .int 1), (2, .int (z_li (nI x))), (0, .ref i), (1, .int (nI x))] [] (n, sl, kd, Ie22, L, Rf) _
          have o23 : z_only (z_rc i) I Ie22 := z_only.tr (z_only.rf) hoe22
          refine ep_aload_n (i := 0) dX5_takeThing_71 rfl rfl ?_
          refine ep_iload_n (i := 3) dX5_takeThing_72 rfl rfl ?_
          refine ep_if_eq (tgt := 80) dX5_takeThing_73 (by decide) (fun c24 => absurd c24 (by decide)) (fun c24 => ?_)
          refine ep_iconst (v := 1) dX5_takeThing_76 (by decide) ?_
          refine ep_goto (tgt := 81) dX5_takeThing_77 (by decide) ?_
          refine ep_pI dX5_takeThing_81 plX5_67 (by have := h.2.2.2.2.2.2.2.2.2.1; omega) (by have := h.2.2.2.2.2.2.2.2.2; omega) h.1 rfl rfl ?_
          refine ep_nmI (fun I25 hI25 => ?_)
          have o26 : z_only (z_rc i) I I25 := z_only.tr (o23) (fun b hb => by rw [hI25, z_set_ne (fun e => hb (by unfold z_rc; omega))])
          refine ep_cut (pc2 := 103) (l2 := [(3, .int 1), (2, .int (z_li (nI x))), (0, .ref i), (1, .int (nI x))]) (st2 := [.int (z_b2 (R.2.2.2.2.2.2.1 || decide (nI x = 108))), .ref i]) (σ2 := (n, sl, kd, I25, L, Rf)) ?_ (fun K84 => ?_)
          · skip
            refine ep_pI dX5_takeThing_103 plX5_70 (by have := h.2.2.2.2.2.2.2.2.2.1; omega) (by have := h.2.2.2.2.2.2.2.2.2; omega) h.1 (z_b2n _) (z_b2f _) ?_
            refine ep_nmI (fun I27 hI27 => ?_)
            have o28 : z_only (z_rc i) I I27 := z_only.tr (o26) (fun b hb => by rw [hI27, z_set_ne (fun e => hb (by unfold z_rc; omega))])
            refine ep_cut (pc2 := 125) (l2 := [(3, .int 1), (2, .int (z_li (nI x))), (0, .ref i), (1, .int (nI x))]) (st2 := [.int (z_b2 (R.2.2.2.2.2.2.2 || decide (nI x = 110))), .ref i]) (σ2 := (n, sl, kd, I27, L, Rf)) ?_ (fun K106 => ?_)
            · skip
              refine ep_pI dX5_takeThing_125 plX5_73 (by have := h.2.2.2.2.2.2.2.2.2.1; omega) (by have := h.2.2.2.2.2.2.2.2.2; omega) h.1 (z_b2n _) (z_b2f _) ?_
              refine ep_nmI (fun I29 hI29 => ?_)
              have o30 : z_only (z_rc i) I I29 := z_only.tr (o28) (fun b hb => by rw [hI29, z_set_ne (fun e => hb (by unfold z_rc; omega))])
              refine ep_aload_n (i := 0) dX5_takeThing_128 rfl rfl ?_
              refine ep_iconst (v := 0) dX5_takeThing_129 (by decide) ?_
              refine ep_pI dX5_takeThing_130 plX5_37 (by have := h.2.2.2.2.2.2.2.2.2.1; omega) (by have := h.2.2.2.2.2.2.2.2.2; omega) h.1 rfl rfl ?_
              refine ep_nmI (fun I31 hI31 => ?_)
              have o32 : z_only (z_rc i) I I31 := z_only.tr (o30) (fun b hb => by rw [hI31, z_set_ne (fun e => hb (by unfold z_rc; omega))])
              refine ep_iconst (v := 1) dX5_takeThing_133 (by decide) ?_
              refine ep_iret dX5_takeThing_134 rfl rfl ?_
              have e : z_tt (nI x) R = some (R.1 ++ [nI x - 48], R.2.1, R.2.2.1, 1, false, R.2.2.2.2.2.1, R.2.2.2.2.2.2.1 || decide (nI x = 108), R.2.2.2.2.2.2.2 || decide (nI x = 110)) := by rw [z_tt, if_neg c1, if_neg (by assumption), if_pos hdg]
              exact ⟨by rw [e]; rfl, _, rfl, fun _ g => (by rw [e] at g; cases g; obtain ⟨⟨a1, a2⟩, ⟨a3, a4⟩, a5, a6, a7, a8, a9, a10⟩ := hRe22; exact ⟨⟨by simpa [hI25, hI27, hI29, hI31, z_set, z_rel, z_cmp] using a1, fun k hk => by rw [show I31 (i + 1) = Ie22 (i + 1) from by rw [hI31, z_set_ne (by omega), hI29, z_set_ne (by omega), hI27, z_set_ne (by omega), hI25, z_set_ne (by omega)]]; exact a2 k hk⟩, ⟨by simpa [hI25, hI27, hI29, hI31, z_set, z_rel, z_cmp] using a3, by rw [show I31 (i + 2) = Ie22 (i + 2) from by rw [hI31, z_set_ne (by omega), hI29, z_set_ne (by omega), hI27, z_set_ne (by omega), hI25, z_set_ne (by omega)]]; exact a4⟩, by simpa [hI25, hI27, hI29, hI31, z_set, z_rel, z_cmp] using a5, by exact (show I31 i 7 = 1 from by simp [hI25, hI27, hI29, hI31, z_set]).trans (by decide : (1 : Int32) = nI 1), by simp [hI25, hI27, hI29, hI31, z_set, z_b2], fun q hq => by rw [show I31 (i + 4) = Ie22 (i + 4) from by rw [hI31, z_set_ne (by omega), hI29, z_set_ne (by omega), hI27, z_set_ne (by omega), hI25, z_set_ne (by omega)]]; exact a8 q hq, by simp [hI25, hI27, hI29, hI31, z_set], by simp [hI25, hI27, hI29, hI31, z_set]⟩), o32⟩
            · skip
              refine ep_aload_n (i := 0) dX5_takeThing_106 rfl rfl ?_
              refine ep_aload_n (i := 0) dX5_takeThing_107 rfl rfl ?_
              refine ep_getI dX5_takeThing_108 flX5_73 (by have := h.2.2.2.2.2.2.2.2.2.1; omega) h.1 ?_
              refine ep_topE (y := z_b2 R.2.2.2.2.2.2.2) (by simpa [hI25, hI27, z_set] using hRe22.2.2.2.2.2.2.2) ?_
              refine ep_if_ne (tgt := 120) dX5_takeThing_111 (by decide) (fun c33 => ?_) (fun c33 => ?_)
              · skip
                refine ep_iconst (v := 1) dX5_takeThing_120 (by decide) ?_
                refine ep_goto (tgt := 125) dX5_takeThing_121 (by decide) ?_
                exact ep_topE (by first | exact z_or1 (by assumption) | exact z_or2 (decide_eq_true (Classical.not_not.mp (by assumption))) | exact z_or3 (by assumption) (fun g => absurd (of_decide_eq_true g) (by assumption))) K106
              · skip
                refine ep_iload_n (i := 1) dX5_takeThing_114 rfl rfl ?_
                refine ep_bipush (v := 110) dX5_takeThing_115 (by decide) ?_
                refine ep_icmp_ne (tgt := 124) dX5_takeThing_117 (by decide) (fun c34 => ?_) (fun c34 => ?_)
                · skip
                  refine ep_iconst (v := 0) dX5_takeThing_124 (by decide) ?_
                  exact ep_topE (by first | exact z_or1 (by assumption) | exact z_or2 (decide_eq_true (Classical.not_not.mp (by assumption))) | exact z_or3 (by assumption) (fun g => absurd (of_decide_eq_true g) (by assumption))) K106
                · skip
                  refine ep_iconst (v := 1) dX5_takeThing_120 (by decide) ?_
                  refine ep_goto (tgt := 125) dX5_takeThing_121 (by decide) ?_
                  exact ep_topE (by first | exact z_or1 (by assumption) | exact z_or2 (decide_eq_true (Classical.not_not.mp (by assumption))) | exact z_or3 (by assumption) (fun g => absurd (of_decide_eq_true g) (by assumption))) K106
          · skip
            refine ep_aload_n (i := 0) dX5_takeThing_84 rfl rfl ?_
            refine ep_aload_n (i := 0) dX5_takeThing_85 rfl rfl ?_
            refine ep_getI dX5_takeThing_86 flX5_70 (by have := h.2.2.2.2.2.2.2.2.2.1; omega) h.1 ?_
            refine ep_topE (y := z_b2 R.2.2.2.2.2.2.1) (by simpa [hI25, z_set] using hRe22.2.2.2.2.2.2.1) ?_
            refine ep_if_ne (tgt := 98) dX5_takeThing_89 (by decide) (fun c35 => ?_) (fun c35 => ?_)
            · skip
              refine ep_iconst (v := 1) dX5_takeThing_98 (by decide) ?_
              refine ep_goto (tgt := 103) dX5_takeThing_99 (by decide) ?_
              exact ep_topE (by first | exact z_or1 (by assumption) | exact z_or2 (decide_eq_true (Classical.not_not.mp (by assumption))) | exact z_or3 (by assumption) (fun g => absurd (of_decide_eq_true g) (by assumption))) K84
            · skip
              refine ep_iload_n (i := 1) dX5_takeThing_92 rfl rfl ?_
              refine ep_bipush (v := 108) dX5_takeThing_93 (by decide) ?_
              refine ep_icmp_ne (tgt := 102) dX5_takeThing_95 (by decide) (fun c36 => ?_) (fun c36 => ?_)
              · skip
                refine ep_iconst (v := 0) dX5_takeThing_102 (by decide) ?_
                exact ep_topE (by first | exact z_or1 (by assumption) | exact z_or2 (decide_eq_true (Classical.not_not.mp (by assumption))) | exact z_or3 (by assumption) (fun g => absurd (of_decide_eq_true g) (by assumption))) K84
              · skip
                refine ep_iconst (v := 1) dX5_takeThing_98 (by decide) ?_
                refine ep_goto (tgt := 103) dX5_takeThing_99 (by decide) ?_
                exact ep_topE (by first | exact z_or1 (by assumption) | exact z_or2 (decide_eq_true (Classical.not_not.mp (by assumption))) | exact z_or3 (by assumption) (fun g => absurd (of_decide_eq_true g) (by assumption))) K84
      · show eb_P _ _ 42 [(2, .int (z_li (nI x))), (0, .ref i), (1, .int (nI x))] (.int 0 :: []) _ _
        refine ep_istore_n (l' := [(3, .int 0), (2, .int (z_li (nI x))), (0, .ref i), (1, .int (nI x))]) dX5_takeThing_42 rfl (by decide) rfl ?_
        refine ep_iload_n (i := 2) dX5_takeThing_43 rfl rfl ?_
        refine ep_if_ge (tgt := 53) dX5_takeThing_44 (by decide) (fun c37 => ?_) (fun c37 => ?_)
        · skip
          refine ep_aload_n (i := 0) dX5_takeThing_53 rfl rfl ?_
          refine ep_iload_n (i := 3) dX5_takeThing_54 rfl rfl ?_
          refine ep_if_eq (tgt := 65) dX5_takeThing_55 (by decide) (fun c38 => ?_) (fun c38 => absurd (by decide) c38)
          refine ep_iconst (v := (-1)) dX5_takeThing_65 (by decide) ?_
          refine ep_iload_n (i := 2) dX5_takeThing_66 rfl rfl ?_
          refine ep_isub dX5_takeThing_67 ?_
          refine ep_callV (M1 := mX5_emit) (rest := []) dX5_takeThing_68 mlX5_94 mvX5_emit rfl (by have := h.2.2.2.2.2.2.2.2.2.1; omega) h.1 (Nat.le_of_ble_eq_true rfl) rfl (q_X5_emit (d + 3) h hR (by omega) ((-1) - (z_li (nI x)))) z_rqok ?_
          rintro _ _ ⟨rfl, Ie39, rfl, hRe39, hoe39⟩
          show eb_P _ _ 71 [(3, .int 0), (2, .int (z_li (nI x))), (0, .ref i), (1, .int (nI x))] [] (n, sl, kd, Ie39, L, Rf) _
          have o40 : z_only (z_rc i) I Ie39 := z_only.tr (z_only.rf) hoe39
          refine ep_aload_n (i := 0) dX5_takeThing_71 rfl rfl ?_
          refine ep_iload_n (i := 3) dX5_takeThing_72 rfl rfl ?_
          refine ep_if_eq (tgt := 80) dX5_takeThing_73 (by decide) (fun c41 => ?_) (fun c41 => absurd (by decide) c41)
          refine ep_iconst (v := 0) dX5_takeThing_80 (by decide) ?_
          refine ep_pI dX5_takeThing_81 plX5_67 (by have := h.2.2.2.2.2.2.2.2.2.1; omega) (by have := h.2.2.2.2.2.2.2.2.2; omega) h.1 rfl rfl ?_
          refine ep_nmI (fun I42 hI42 => ?_)
          have o43 : z_only (z_rc i) I I42 := z_only.tr (o40) (fun b hb => by rw [hI42, z_set_ne (fun e => hb (by unfold z_rc; omega))])
          refine ep_cut (pc2 := 103) (l2 := [(3, .int 0), (2, .int (z_li (nI x))), (0, .ref i), (1, .int (nI x))]) (st2 := [.int (z_b2 (R.2.2.2.2.2.2.1 || decide (nI x = 108))), .ref i]) (σ2 := (n, sl, kd, I42, L, Rf)) ?_ (fun K84 => ?_)
          · skip
            refine ep_pI dX5_takeThing_103 plX5_70 (by have := h.2.2.2.2.2.2.2.2.2.1; omega) (by have := h.2.2.2.2.2.2.2.2.2; omega) h.1 (z_b2n _) (z_b2f _) ?_
            refine ep_nmI (fun I44 hI44 => ?_)
            have o45 : z_only (z_rc i) I I44 := z_only.tr (o43) (fun b hb => by rw [hI44, z_set_ne (fun e => hb (by unfold z_rc; omega))])
            refine ep_cut (pc2 := 125) (l2 := [(3, .int 0), (2, .int (z_li (nI x))), (0, .ref i), (1, .int (nI x))]) (st2 := [.int (z_b2 (R.2.2.2.2.2.2.2 || decide (nI x = 110))), .ref i]) (σ2 := (n, sl, kd, I44, L, Rf)) ?_ (fun K106 => ?_)
            · skip
              refine ep_pI dX5_takeThing_125 plX5_73 (by have := h.2.2.2.2.2.2.2.2.2.1; omega) (by have := h.2.2.2.2.2.2.2.2.2; omega) h.1 (z_b2n _) (z_b2f _) ?_
              refine ep_nmI (fun I46 hI46 => ?_)
              have o47 : z_only (z_rc i) I I46 := z_only.tr (o45) (fun b hb => by rw [hI46, z_set_ne (fun e => hb (by unfold z_rc; omega))])
              refine ep_aload_n (i := 0) dX5_takeThing_128 rfl rfl ?_
              refine ep_iconst (v := 0) dX5_takeThing_129 (by decide) ?_
              refine ep_pI dX5_takeThing_130 plX5_37 (by have := h.2.2.2.2.2.2.2.2.2.1; omega) (by have := h.2.2.2.2.2.2.2.2.2; omega) h.1 rfl rfl ?_
              refine ep_nmI (fun I48 hI48 => ?_)
              have o49 : z_only (z_rc i) I I48 := z_only.tr (o47) (fun b hb => by rw [hI48, z_set_ne (fun e => hb (by unfold z_rc; omega))])
              refine ep_iconst (v := 1) dX5_takeThing_133 (by decide) ?_
              refine ep_iret dX5_takeThing_134 rfl rfl ?_
              have e : z_tt (nI x) R = some (R.1 ++ [(-1) - z_li (nI x)], R.2.1, R.2.2.1, 0, false, R.2.2.2.2.2.1, R.2.2.2.2.2.2.1 || decide (nI x = 108), R.2.2.2.2.2.2.2 || decide (nI x = 110)) := by rw [z_tt, if_neg c1, if_neg (by assumption), if_neg hdg, if_neg (Int32.not_lt.mpr (by assumption))]
              exact ⟨by rw [e]; rfl, _, rfl, fun _ g => (by rw [e] at g; cases g; obtain ⟨⟨a1, a2⟩, ⟨a3, a4⟩, a5, a6, a7, a8, a9, a10⟩ := hRe39; exact ⟨⟨by simpa [hI42, hI44, hI46, hI48, z_set, z_rel, z_cmp] using a1, fun k hk => by rw [show I48 (i + 1) = Ie39 (i + 1) from by rw [hI48, z_set_ne (by omega), hI46, z_set_ne (by omega), hI44, z_set_ne (by omega), hI42, z_set_ne (by omega)]]; exact a2 k hk⟩, ⟨by simpa [hI42, hI44, hI46, hI48, z_set, z_rel, z_cmp] using a3, by rw [show I48 (i + 2) = Ie39 (i + 2) from by rw [hI48, z_set_ne (by omega), hI46, z_set_ne (by omega), hI44, z_set_ne (by omega), hI42, z_set_ne (by omega)]]; exact a4⟩, by simpa [hI42, hI44, hI46, hI48, z_set, z_rel, z_cmp] using a5, by exact (show I48 i 7 = 0 from by simp [hI42, hI44, hI46, hI48, z_set]).trans (by decide : (0 : Int32) = nI 0), by simp [hI42, hI44, hI46, hI48, z_set, z_b2], fun q hq => by rw [show I48 (i + 4) = Ie39 (i + 4) from by rw [hI48, z_set_ne (by omega), hI46, z_set_ne (by omega), hI44, z_set_ne (by omega), hI42, z_set_ne (by omega)]]; exact a8 q hq, by simp [hI42, hI44, hI46, hI48, z_set], by simp [hI42, hI44, hI46, hI48, z_set]⟩), o49⟩
            · skip
              refine ep_aload_n (i := 0) dX5_takeThing_106 rfl rfl ?_
              refine ep_aload_n (i := 0) dX5_takeThing_107 rfl rfl ?_
              refine ep_getI dX5_takeThing_108 flX5_73 (by have := h.2.2.2.2.2.2.2.2.2.1; omega) h.1 ?_
              refine ep_topE (y := z_b2 R.2.2.2.2.2.2.2) (by simpa [hI42, hI44, z_set] using hRe39.2.2.2.2.2.2.2) ?_
              refine ep_if_ne (tgt := 120) dX5_takeThing_111 (by decide) (fun c50 => ?_) (fun c50 => ?_)
              · skip
                refine ep_iconst (v := 1) dX5_takeThing_120 (by decide) ?_
                refine ep_goto (tgt := 125) dX5_takeThing_121 (by decide) ?_
                exact ep_topE (by first | exact z_or1 (by assumption) | exact z_or2 (decide_eq_true (Classical.not_not.mp (by assumption))) | exact z_or3 (by assumption) (fun g => absurd (of_decide_eq_true g) (by assumption))) K106
              · skip
                refine ep_iload_n (i := 1) dX5_takeThing_114 rfl rfl ?_
                refine ep_bipush (v := 110) dX5_takeThing_115 (by decide) ?_
                refine ep_icmp_ne (tgt := 124) dX5_takeThing_117 (by decide) (fun c51 => ?_) (fun c51 => ?_)
                · skip
                  refine ep_iconst (v := 0) dX5_takeThing_124 (by decide) ?_
                  exact ep_topE (by first | exact z_or1 (by assumption) | exact z_or2 (decide_eq_true (Classical.not_not.mp (by assumption))) | exact z_or3 (by assumption) (fun g => absurd (of_decide_eq_true g) (by assumption))) K106
                · skip
                  refine ep_iconst (v := 1) dX5_takeThing_120 (by decide) ?_
                  refine ep_goto (tgt := 125) dX5_takeThing_121 (by decide) ?_
                  exact ep_topE (by first | exact z_or1 (by assumption) | exact z_or2 (decide_eq_true (Classical.not_not.mp (by assumption))) | exact z_or3 (by assumption) (fun g => absurd (of_decide_eq_true g) (by assumption))) K106
          · skip
            refine ep_aload_n (i := 0) dX5_takeThing_84 rfl rfl ?_
            refine ep_aload_n (i := 0) dX5_takeThing_85 rfl rfl ?_
            refine ep_getI dX5_takeThing_86 flX5_70 (by have := h.2.2.2.2.2.2.2.2.2.1; omega) h.1 ?_
            refine ep_topE (y := z_b2 R.2.2.2.2.2.2.1) (by simpa [hI42, z_set] using hRe39.2.2.2.2.2.2.1) ?_
            refine ep_if_ne (tgt := 98) dX5_takeThing_89 (by decide) (fun c52 => ?_) (fun c52 => ?_)
            · skip
              refine ep_iconst (v := 1) dX5_takeThing_98 (by decide) ?_
              refine ep_goto (tgt := 103) dX5_takeThing_99 (by decide) ?_
              exact ep_topE (by first | exact z_or1 (by assumption) | exact z_or2 (decide_eq_true (Classical.not_not.mp (by assumption))) | exact z_or3 (by assumption) (fun g => absurd (of_decide_eq_true g) (by assumption))) K84
            · skip
              refine ep_iload_n (i := 1) dX5_takeThing_92 rfl rfl ?_
              refine ep_bipush (v := 108) dX5_takeThing_93 (by decide) ?_
              refine ep_icmp_ne (tgt := 102) dX5_takeThing_95 (by decide) (fun c53 => ?_) (fun c53 => ?_)
              · skip
                refine ep_iconst (v := 0) dX5_takeThing_102 (by decide) ?_
                exact ep_topE (by first | exact z_or1 (by assumption) | exact z_or2 (decide_eq_true (Classical.not_not.mp (by assumption))) | exact z_or3 (by assumption) (fun g => absurd (of_decide_eq_true g) (by assumption))) K84
              · skip
                refine ep_iconst (v := 1) dX5_takeThing_98 (by decide) ?_
                refine ep_goto (tgt := 103) dX5_takeThing_99 (by decide) ?_
                exact ep_topE (by first | exact z_or1 (by assumption) | exact z_or2 (decide_eq_true (Classical.not_not.mp (by assumption))) | exact z_or3 (by assumption) (fun g => absurd (of_decide_eq_true g) (by assumption))) K84
        · skip
          refine ep_iload_n (i := 3) dX5_takeThing_47 rfl rfl ?_
          refine ep_if_ne (tgt := 53) dX5_takeThing_48 (by decide) (fun c54 => absurd c54 (by decide)) (fun c54 => ?_)
          refine ep_iconst (v := 0) dX5_takeThing_51 (by decide) ?_
          refine ep_iret dX5_takeThing_52 rfl rfl ?_
          have e : z_tt (nI x) R = none := by rw [z_tt, if_neg c1, if_neg (by assumption), if_neg hdg, if_pos (Int32.not_le.mp (by assumption))]
          exact ⟨by rw [e]; rfl, _, rfl, fun _ g => (by rw [e] at g; cases g), z_only.rf⟩
    · skip
      refine ep_aload_n (i := 0) dX5_takeThing_21 rfl rfl ?_
      refine ep_callV (M1 := mX5_open) (rest := []) dX5_takeThing_22 mlX5_79 mvX5_open rfl (by have := h.2.2.2.2.2.2.2.2.2.1; omega) h.1 (Nat.le_of_ble_eq_true rfl) rfl (q_X5_open (d + 2) h hR (by omega) hdp) z_oqok ?_
      rintro _ _ ⟨rfl, Ie55, rfl, hRe55, hoe55⟩
      show eb_P _ _ 25 [(0, .ref i), (1, .int (nI x))] (.int (z_b2 (z_op R).isSome) :: []) (n, sl, kd, Ie55, L, Rf) _
      have o56 : z_only (z_rc i) I Ie55 := z_only.tr (z_only.rf) hoe55
      refine ep_iret dX5_takeThing_25 rfl (z_b2n _) ?_
      have e : z_tt (nI x) R = z_op R := by rw [z_tt, if_neg c1, if_pos (Classical.not_not.mp (by assumption))]
      exact ⟨by rw [e], _, rfl, fun _ g => hRe55 _ (by rw [e] at g; exact g), o56⟩
  · skip
    refine ep_aload_n (i := 0) dX5_takeThing_6 rfl rfl ?_
    refine ep_sipush (v := 256) dX5_takeThing_7 (by decide) ?_
    refine ep_callV (M1 := mX5_hold) (rest := []) dX5_takeThing_10 mlX5_76 mvX5_hold rfl (by have := h.2.2.2.2.2.2.2.2.2.1; omega) h.1 (Nat.le_of_ble_eq_true rfl) rfl (q_X5_hold (d + 3) h hR (by omega) 256) z_rqok ?_
    rintro _ _ ⟨rfl, Ie57, rfl, hRe57, hoe57⟩
    show eb_P _ _ 13 [(0, .ref i), (1, .int (nI x))] [] (n, sl, kd, Ie57, L, Rf) _
    have o58 : z_only (z_rc i) I Ie57 := z_only.tr (z_only.rf) hoe57
    refine ep_iconst (v := 1) dX5_takeThing_13 (by decide) ?_
    refine ep_iret dX5_takeThing_14 rfl rfl ?_
    have e : z_tt (nI x) R = some (R.1, 256 :: R.2.1, R.2.2) := by rw [z_tt, if_pos (Classical.not_not.mp c1)]
    exact ⟨by rw [e]; rfl, _, rfl, fun _ g => (by rw [e] at g; cases g; exact hRe57), o58⟩
theorem z_b2z {b : Bool} (h : z_b2 b = 0) : ¬ b = true := by cases b; decide; exact absurd h (by decide)
theorem z_b2t {b : Bool} (h : ¬ z_b2 b = 0) : b = true := by cases b; exact absurd rfl h; rfl
theorem q_X5_takeJoint {n : Nat} {sl : Nat × Nat} {kd : Nat → Nat × Nat} {I : Nat → Nat → Int32} {L : Nat → Nat → Int64} {Rf : Nat → Nat → Option Nat} (d : Nat) {i : Nat} (h : eb_rul n kd Rf i) {R : z_R} (hR : z_RI I i R) (hl : R.1.length + R.2.1.length ≤ 40) (hw : R.2.1.length < 40) (hdp : R.2.2.1 ≤ 4) (hg : R.2.2.2.1 ≤ 3) (s : Int32) : eb_Q mX5_takeJoint (d + 3) [.ref i, .int s] (n, sl, kd, I, L, Rf) (z_oq n sl kd L Rf I i (z_tj s R)) := by
  refine ep_meth pn_X.2.2.2.2.2.1 (Nat.le_of_ble_eq_true rfl) ?_
  show eb_P mX5_takeJoint (d + 3) 0 [(0, .ref i), (1, .int s)] [] (n, sl, kd, I, L, Rf) _
  refine ep_iload_n (i := 1) dX5_takeJoint_0 rfl rfl ?_
  refine ep_bipush (v := 48) dX5_takeJoint_1 (by decide) ?_
  refine ep_bipush (v := 57) dX5_takeJoint_3 (by decide) ?_
  refine ep_callS (M1 := mX10_within) (rest := []) dX5_takeJoint_5 mlX5_90 msX10_within rfl (Nat.le_of_ble_eq_true rfl) rfl (q_X10_within (d + 2) s 48 57 (n, sl, kd, I, L, Rf)) eb_bok ?_
  rintro _ _ ⟨rfl, ⟨hdg, rfl⟩ | ⟨hdg, rfl⟩⟩
  · show eb_P _ _ 8 [(0, .ref i), (1, .int s)] (.int 1 :: []) _ _
    refine ep_if_eq (tgt := 20) dX5_takeJoint_8 (by decide) (fun c1 => absurd c1 (by decide)) (fun c1 => ?_)
    refine ep_aload_n (i := 0) dX5_takeJoint_11 rfl rfl ?_
    refine ep_iload_n (i := 1) dX5_takeJoint_12 rfl rfl ?_
    refine ep_bipush (v := 48) dX5_takeJoint_13 (by decide) ?_
    refine ep_isub dX5_takeJoint_15 ?_
    refine ep_callV (M1 := mX5_lengthenNumber) (rest := []) dX5_takeJoint_16 mlX5_97 mvX5_lengthenNumber rfl (by have := h.2.2.2.2.2.2.2.2.2.1; omega) h.1 (Nat.le_of_ble_eq_true rfl) rfl (q_X5_lengthenNumber (d + 2) h hR (by omega) hg (s - 48)) z_oqok ?_
    rintro _ _ ⟨rfl, Ie2, rfl, hRe2, hoe2⟩
    show eb_P _ _ 19 [(0, .ref i), (1, .int s)] (.int (z_b2 (z_ln3 (s - 48) R).isSome) :: []) (n, sl, kd, Ie2, L, Rf) _
    have o3 : z_only (z_rc i) I Ie2 := z_only.tr (z_only.rf) hoe2
    refine ep_iret dX5_takeJoint_19 rfl (z_b2n _) ?_
    have e : z_tj s R = z_ln3 (s - 48) R := by rw [z_tj, if_pos hdg]
    exact ⟨by rw [e], _, rfl, fun _ g => hRe2 _ (by rw [e] at g; exact g), o3⟩
  · show eb_P _ _ 8 [(0, .ref i), (1, .int s)] (.int 0 :: []) _ _
    refine ep_if_eq (tgt := 20) dX5_takeJoint_8 (by decide) (fun c4 => ?_) (fun c4 => absurd (by decide) c4)
    refine ep_iload_n (i := 1) dX5_takeJoint_20 rfl rfl ?_
    refine ep_bipush (v := 41) dX5_takeJoint_21 (by decide) ?_
    refine ep_icmp_ne (tgt := 31) dX5_takeJoint_23 (by decide) (fun c5 => ?_) (fun c5 => ?_)
    · skip
      refine ep_iload_n (i := 1) dX5_takeJoint_31 rfl rfl ?_
      refine ep_callS (M1 := mX5_rankOf) (rest := []) dX5_takeJoint_32 mlX5_103 msX5_rankOf rfl (Nat.le_of_ble_eq_true rfl) rfl (q_X5_rankOf (d + 2) s) eb_rok ?_
      rintro _ _ ⟨rfl, rfl⟩
      show eb_P _ _ 35 [(0, .ref i), (1, .int s)] (.int (z_rk s) :: []) _ _
      refine ep_istore_n (l' := [(2, .int (z_rk s)), (0, .ref i), (1, .int s)]) dX5_takeJoint_35 rfl (by decide) rfl ?_
      refine ep_iload_n (i := 2) dX5_takeJoint_36 rfl rfl ?_
      refine ep_if_eq (tgt := 57) dX5_takeJoint_37 (by decide) (fun c6 => ?_) (fun c6 => ?_)
      · skip
        refine ep_iconst (v := 0) dX5_takeJoint_57 (by decide) ?_
        refine ep_iret dX5_takeJoint_58 rfl rfl ?_
        have e : z_tj s R = none := by rw [z_tj, if_neg hdg, if_neg (by assumption), if_pos (by first | exact Or.inl (by assumption) | exact Or.inr ⟨Classical.not_not.mp (by assumption), z_b2t (by assumption)⟩)]
        exact ⟨by rw [e]; rfl, _, rfl, fun _ g => (by rw [e] at g; cases g), z_only.rf⟩
      · skip
        refine ep_iload_n (i := 2) dX5_takeJoint_40 rfl rfl ?_
        refine ep_iconst (v := 1) dX5_takeJoint_41 (by decide) ?_
        refine ep_icmp_ne (tgt := 59) dX5_takeJoint_42 (by decide) (fun c7 => ?_) (fun c7 => ?_)
        · skip
          refine ep_cut (pc2 := 89) (l2 := [(2, .int (z_rk s)), (0, .ref i), (1, .int s)]) (st2 := [.int (z_b2 (R.2.2.2.2.2.1 R.2.2.1 || decide (z_rk s = 1))), .int (nI R.2.2.1), .ref (i + 4)]) (σ2 := (n, sl, kd, I, L, Rf)) ?_ (fun K59 => ?_)
          · skip
            refine ep_zsN (k := R.2.2.1) dX5_takeJoint_89 (by have := h.2.2.2.2.2.2.2.2.2.1; omega) (by have := h.2.2.2.2.2.2.2.2.2; omega) h.2.2.2.2.1 (by omega) (by decide) ?_
            refine ep_nmI (fun I8 hI8 => ?_)
            have o9 : z_only (z_rc i) I I8 := fun b hb => by rw [hI8, z_set_ne (fun e => hb (by unfold z_rc; omega))]
            refine ep_aload_n (i := 0) dX5_takeJoint_90 rfl rfl ?_
            refine ep_iload_n (i := 2) dX5_takeJoint_91 rfl rfl ?_
            refine ep_callV (M1 := mX5_release) (rest := []) dX5_takeJoint_92 mlX5_52 mvX5_release rfl (by have := h.2.2.2.2.2.2.2.2.2.1; omega) h.1 (Nat.le_of_ble_eq_true rfl) rfl (q_X5_release (R := z_cmp s R) (d + 1) h (by obtain ⟨⟨a1, a2⟩, ⟨a3, a4⟩, a5, a6, a7, a8, a9, a10⟩ := hR; exact ⟨⟨by simpa [hI8, z_set, z_rel, z_cmp] using a1, fun k hk => by rw [show I8 (i + 1) = I (i + 1) from by rw [hI8, z_set_ne (by omega)]]; exact a2 k hk⟩, ⟨by simpa [hI8, z_set, z_rel, z_cmp] using a3, by rw [show I8 (i + 2) = I (i + 2) from by rw [hI8, z_set_ne (by omega)]]; exact a4⟩, by simpa [hI8, z_set, z_rel, z_cmp] using a5, by simpa [hI8, z_set, z_rel, z_cmp] using a6, by simpa [hI8, z_set, z_rel, z_cmp] using a7, by intro q hq; have hq : q ≤ R.2.2.1 := hq; show I8 (i + 4) q = z_b2 (if q = R.2.2.1 then R.2.2.2.2.2.1 R.2.2.1 || decide (z_rk s = 1) else R.2.2.2.2.2.1 q); by_cases e : q = R.2.2.1; (subst e; simp [hI8, z_set, z_b2v]); (simp [hI8, z_set, e]; exact a8 q hq), by simpa [hI8, z_set, z_rel, z_cmp] using a9, by simpa [hI8, z_set, z_rel, z_cmp] using a10⟩) hl (z_rk s)) z_rqok ?_
            rintro _ _ ⟨rfl, Ie10, rfl, hRe10, hoe10⟩
            show eb_P _ _ 95 [(2, .int (z_rk s)), (0, .ref i), (1, .int s)] [] (n, sl, kd, Ie10, L, Rf) _
            have o11 : z_only (z_rc i) I Ie10 := z_only.tr (o9) hoe10
            refine ep_aload_n (i := 0) dX5_takeJoint_95 rfl rfl ?_
            refine ep_iload_n (i := 1) dX5_takeJoint_96 rfl rfl ?_
            refine ep_callV (M1 := mX5_hold) (rest := []) dX5_takeJoint_97 mlX5_76 mvX5_hold rfl (by have := h.2.2.2.2.2.2.2.2.2.1; omega) h.1 (Nat.le_of_ble_eq_true rfl) rfl (q_X5_hold (d + 2) h hRe10 (Nat.lt_of_le_of_lt (z_rl_le _ _ _) hw) s) z_rqok ?_
            rintro _ _ ⟨rfl, Ie12, rfl, hRe12, hoe12⟩
            show eb_P _ _ 100 [(2, .int (z_rk s)), (0, .ref i), (1, .int s)] [] (n, sl, kd, Ie12, L, Rf) _
            have o13 : z_only (z_rc i) I Ie12 := z_only.tr (o11) hoe12
            refine ep_aload_n (i := 0) dX5_takeJoint_100 rfl rfl ?_
            refine ep_iconst (v := 0) dX5_takeJoint_101 (by decide) ?_
            refine ep_pI dX5_takeJoint_102 plX5_67 (by have := h.2.2.2.2.2.2.2.2.2.1; omega) (by have := h.2.2.2.2.2.2.2.2.2; omega) h.1 rfl rfl ?_
            refine ep_nmI (fun I14 hI14 => ?_)
            have o15 : z_only (z_rc i) I I14 := z_only.tr (o13) (fun b hb => by rw [hI14, z_set_ne (fun e => hb (by unfold z_rc; omega))])
            refine ep_aload_n (i := 0) dX5_takeJoint_105 rfl rfl ?_
            refine ep_iconst (v := 1) dX5_takeJoint_106 (by decide) ?_
            refine ep_pI dX5_takeJoint_107 plX5_37 (by have := h.2.2.2.2.2.2.2.2.2.1; omega) (by have := h.2.2.2.2.2.2.2.2.2; omega) h.1 rfl rfl ?_
            refine ep_nmI (fun I16 hI16 => ?_)
            have o17 : z_only (z_rc i) I I16 := z_only.tr (o15) (fun b hb => by rw [hI16, z_set_ne (fun e => hb (by unfold z_rc; omega))])
            refine ep_iconst (v := 1) dX5_takeJoint_110 (by decide) ?_
            refine ep_iret dX5_takeJoint_111 rfl rfl ?_
            have e : z_tj s R = some ((z_rel (z_rk s) R).1, s :: (z_rel (z_rk s) R).2.1, R.2.2.1, 0, true, (z_cmp s R).2.2.2.2.2.1, R.2.2.2.2.2.2) := by rw [z_tj, if_neg hdg, if_neg (by assumption), if_neg (by rintro (g | ⟨g, g2⟩); exact absurd g (by assumption); first | exact absurd g (by assumption) | exact absurd g2 (z_b2z (by assumption)))]
            exact ⟨by rw [e]; rfl, _, rfl, fun _ g => (by rw [e] at g; cases g; obtain ⟨⟨a1, a2⟩, ⟨a3, a4⟩, a5, a6, a7, a8, a9, a10⟩ := hRe12; exact ⟨⟨by simpa [hI14, hI16, z_set, z_rel, z_cmp] using a1, fun k hk => by rw [show I16 (i + 1) = Ie12 (i + 1) from by rw [hI16, z_set_ne (by omega), hI14, z_set_ne (by omega)]]; exact a2 k hk⟩, ⟨by simpa [hI14, hI16, z_set, z_rel, z_cmp] using a3, by rw [show I16 (i + 2) = Ie12 (i + 2) from by rw [hI16, z_set_ne (by omega), hI14, z_set_ne (by omega)]]; exact a4⟩, by simpa [hI14, hI16, z_set, z_rel, z_cmp] using a5, by exact (show I16 i 7 = 0 from by simp [hI14, hI16, z_set]).trans (by decide : (0 : Int32) = nI 0), by simp [hI14, hI16, z_set, z_b2], fun q hq => by rw [show I16 (i + 4) = Ie12 (i + 4) from by rw [hI16, z_set_ne (by omega), hI14, z_set_ne (by omega)]]; exact a8 q hq, by simpa [hI14, hI16, z_set, z_rel, z_cmp] using a9, by simpa [hI14, hI16, z_set, z_rel, z_cmp] using a10⟩), o17⟩
          · skip
            refine ep_aload_n (i := 0) dX5_takeJoint_59 rfl rfl ?_
            refine ep_getR dX5_takeJoint_60 flX5_21 (by have := h.2.2.2.2.2.2.2.2.2.1; omega) h.1 h.2.2.2.2.2.2.2.2.1 ?_
            refine ep_aload_n (i := 0) dX5_takeJoint_63 rfl rfl ?_
            refine ep_getI dX5_takeJoint_64 flX5_56 (by have := h.2.2.2.2.2.2.2.2.2.1; omega) h.1 ?_
            refine ep_topE (y := nI R.2.2.1) hR.2.2.1 ?_
            refine ep_aload_n (i := 0) dX5_takeJoint_67 rfl rfl ?_
            refine ep_getR dX5_takeJoint_68 flX5_21 (by have := h.2.2.2.2.2.2.2.2.2.1; omega) h.1 h.2.2.2.2.2.2.2.2.1 ?_
            refine ep_aload_n (i := 0) dX5_takeJoint_71 rfl rfl ?_
            refine ep_getI dX5_takeJoint_72 flX5_56 (by have := h.2.2.2.2.2.2.2.2.2.1; omega) h.1 ?_
            refine ep_topE (y := nI R.2.2.1) hR.2.2.1 ?_
            refine ep_zaN (k := R.2.2.1) dX5_takeJoint_75 (by have := h.2.2.2.2.2.2.2.2.2.1; omega) h.2.2.2.2.1 (by omega) (by decide) ?_
            refine ep_topE (y := z_b2 (R.2.2.2.2.2.1 R.2.2.1)) (hR.2.2.2.2.2.1 R.2.2.1 (Nat.le_refl _)) ?_
            refine ep_if_ne (tgt := 84) dX5_takeJoint_76 (by decide) (fun c18 => ?_) (fun c18 => ?_)
            · skip
              refine ep_iconst (v := 1) dX5_takeJoint_84 (by decide) ?_
              refine ep_goto (tgt := 89) dX5_takeJoint_85 (by decide) ?_
              exact ep_topE (by first | exact z_or1 (by assumption) | exact z_or2 (decide_eq_true (Classical.not_not.mp (by assumption))) | exact z_or3 (by assumption) (fun g => absurd (of_decide_eq_true g) (by assumption))) K59
            · skip
              refine ep_iload_n (i := 2) dX5_takeJoint_79 rfl rfl ?_
              refine ep_iconst (v := 1) dX5_takeJoint_80 (by decide) ?_
              refine ep_icmp_ne (tgt := 88) dX5_takeJoint_81 (by decide) (fun c19 => ?_) (fun c19 => ?_)
              · skip
                refine ep_iconst (v := 0) dX5_takeJoint_88 (by decide) ?_
                exact ep_topE (by first | exact z_or1 (by assumption) | exact z_or2 (decide_eq_true (Classical.not_not.mp (by assumption))) | exact z_or3 (by assumption) (fun g => absurd (of_decide_eq_true g) (by assumption))) K59
              · skip
                refine ep_iconst (v := 1) dX5_takeJoint_84 (by decide) ?_
                refine ep_goto (tgt := 89) dX5_takeJoint_85 (by decide) ?_
                exact ep_topE (by first | exact z_or1 (by assumption) | exact z_or2 (decide_eq_true (Classical.not_not.mp (by assumption))) | exact z_or3 (by assumption) (fun g => absurd (of_decide_eq_true g) (by assumption))) K59
        · skip
          refine ep_aload_n (i := 0) dX5_takeJoint_45 rfl rfl ?_
          refine ep_getR dX5_takeJoint_46 flX5_21 (by have := h.2.2.2.2.2.2.2.2.2.1; omega) h.1 h.2.2.2.2.2.2.2.2.1 ?_
          refine ep_aload_n (i := 0) dX5_takeJoint_49 rfl rfl ?_
          refine ep_getI dX5_takeJoint_50 flX5_56 (by have := h.2.2.2.2.2.2.2.2.2.1; omega) h.1 ?_
          refine ep_topE (y := nI R.2.2.1) hR.2.2.1 ?_
          refine ep_zaN (k := R.2.2.1) dX5_takeJoint_53 (by have := h.2.2.2.2.2.2.2.2.2.1; omega) h.2.2.2.2.1 (by omega) (by decide) ?_
          refine ep_topE (y := z_b2 (R.2.2.2.2.2.1 R.2.2.1)) (hR.2.2.2.2.2.1 R.2.2.1 (Nat.le_refl _)) ?_
          refine ep_if_eq (tgt := 59) dX5_takeJoint_54 (by decide) (fun c20 => ?_) (fun c20 => ?_)
          · skip
            refine ep_cut (pc2 := 89) (l2 := [(2, .int (z_rk s)), (0, .ref i), (1, .int s)]) (st2 := [.int (z_b2 (R.2.2.2.2.2.1 R.2.2.1 || decide (z_rk s = 1))), .int (nI R.2.2.1), .ref (i + 4)]) (σ2 := (n, sl, kd, I, L, Rf)) ?_ (fun K59 => ?_)
            · skip
              refine ep_zsN (k := R.2.2.1) dX5_takeJoint_89 (by have := h.2.2.2.2.2.2.2.2.2.1; omega) (by have := h.2.2.2.2.2.2.2.2.2; omega) h.2.2.2.2.1 (by omega) (by decide) ?_
              refine ep_nmI (fun I21 hI21 => ?_)
              have o22 : z_only (z_rc i) I I21 := fun b hb => by rw [hI21, z_set_ne (fun e => hb (by unfold z_rc; omega))]
              refine ep_aload_n (i := 0) dX5_takeJoint_90 rfl rfl ?_
              refine ep_iload_n (i := 2) dX5_takeJoint_91 rfl rfl ?_
              refine ep_callV (M1 := mX5_release) (rest := []) dX5_takeJoint_92 mlX5_52 mvX5_release rfl (by have := h.2.2.2.2.2.2.2.2.2.1; omega) h.1 (Nat.le_of_ble_eq_true rfl) rfl (q_X5_release (R := z_cmp s R) (d + 1) h (by obtain ⟨⟨a1, a2⟩, ⟨a3, a4⟩, a5, a6, a7, a8, a9, a10⟩ := hR; exact ⟨⟨by simpa [hI21, z_set, z_rel, z_cmp] using a1, fun k hk => by rw [show I21 (i + 1) = I (i + 1) from by rw [hI21, z_set_ne (by omega)]]; exact a2 k hk⟩, ⟨by simpa [hI21, z_set, z_rel, z_cmp] using a3, by rw [show I21 (i + 2) = I (i + 2) from by rw [hI21, z_set_ne (by omega)]]; exact a4⟩, by simpa [hI21, z_set, z_rel, z_cmp] using a5, by simpa [hI21, z_set, z_rel, z_cmp] using a6, by simpa [hI21, z_set, z_rel, z_cmp] using a7, by intro q hq; have hq : q ≤ R.2.2.1 := hq; show I21 (i + 4) q = z_b2 (if q = R.2.2.1 then R.2.2.2.2.2.1 R.2.2.1 || decide (z_rk s = 1) else R.2.2.2.2.2.1 q); by_cases e : q = R.2.2.1; (subst e; simp [hI21, z_set, z_b2v]); (simp [hI21, z_set, e]; exact a8 q hq), by simpa [hI21, z_set, z_rel, z_cmp] using a9, by simpa [hI21, z_set, z_rel, z_cmp] using a10⟩) hl (z_rk s)) z_rqok ?_
              rintro _ _ ⟨rfl, Ie23, rfl, hRe23, hoe23⟩
              show eb_P _ _ 95 [(2, .int (z_rk s)), (0, .ref i), (1, .int s)] [] (n, sl, kd, Ie23, L, Rf) _
              have o24 : z_only (z_rc i) I Ie23 := z_only.tr (o22) hoe23
              refine ep_aload_n (i := 0) dX5_takeJoint_95 rfl rfl ?_
              refine ep_iload_n (i := 1) dX5_takeJoint_96 rfl rfl ?_
              refine ep_callV (M1 := mX5_hold) (rest := []) dX5_takeJoint_97 mlX5_76 mvX5_hold rfl (by have := h.2.2.2.2.2.2.2.2.2.1; omega) h.1 (Nat.le_of_ble_eq_true rfl) rfl (q_X5_hold (d + 2) h hRe23 (Nat.lt_of_le_of_lt (z_rl_le _ _ _) hw) s) z_rqok ?_
              rintro _ _ ⟨rfl, Ie25, rfl, hRe25, hoe25⟩
              show eb_P _ _ 100 [(2, .int (z_rk s)), (0, .ref i), (1, .int s)] [] (n, sl, kd, Ie25, L, Rf) _
              have o26 : z_only (z_rc i) I Ie25 := z_only.tr (o24) hoe25
              refine ep_aload_n (i := 0) dX5_takeJoint_100 rfl rfl ?_
              refine ep_iconst (v := 0) dX5_takeJoint_101 (by decide) ?_
              refine ep_pI dX5_takeJoint_102 plX5_67 (by have := h.2.2.2.2.2.2.2.2.2.1; omega) (by have := h.2.2.2.2.2.2.2.2.2; omega) h.1 rfl rfl ?_
              refine ep_nmI (fun I27 hI27 => ?_)
              have o28 : z_only (z_rc i) I I27 := z_only.tr (o26) (fun b hb => by rw [hI27, z_set_ne (fun e => hb (by unfold z_rc; omega))])
              refine ep_aload_n (i := 0) dX5_takeJoint_105 rfl rfl ?_
              refine ep_iconst (v := 1) dX5_takeJoint_106 (by decide) ?_
              refine ep_pI dX5_takeJoint_107 plX5_37 (by have := h.2.2.2.2.2.2.2.2.2.1; omega) (by have := h.2.2.2.2.2.2.2.2.2; omega) h.1 rfl rfl ?_
              refine ep_nmI (fun I29 hI29 => ?_)
              have o30 : z_only (z_rc i) I I29 := z_only.tr (o28) (fun b hb => by rw [hI29, z_set_ne (fun e => hb (by unfold z_rc; omega))])
              refine ep_iconst (v := 1) dX5_takeJoint_110 (by decide) ?_
              refine ep_iret dX5_takeJoint_111 rfl rfl ?_
              have e : z_tj s R = some ((z_rel (z_rk s) R).1, s :: (z_rel (z_rk s) R).2.1, R.2.2.1, 0, true, (z_cmp s R).2.2.2.2.2.1, R.2.2.2.2.2.2) := by rw [z_tj, if_neg hdg, if_neg (by assumption), if_neg (by rintro (g | ⟨g, g2⟩); exact absurd g (by assumption); first | exact absurd g (by assumption) | exact absurd g2 (z_b2z (by assumption)))]
              exact ⟨by rw [e]; rfl, _, rfl, fun _ g => (by rw [e] at g; cases g; obtain ⟨⟨a1, a2⟩, ⟨a3, a4⟩, a5, a6, a7, a8, a9, a10⟩ := hRe25; exact ⟨⟨by simpa [hI27, hI29, z_set, z_rel, z_cmp] using a1, fun k hk => by rw [show I29 (i + 1) = Ie25 (i + 1) from by rw [hI29, z_set_ne (by omega), hI27, z_set_ne (by omega)]]; exact a2 k hk⟩, ⟨by simpa [hI27, hI29, z_set, z_rel, z_cmp] using a3, by rw [show I29 (i + 2) = Ie25 (i + 2) from by rw [hI29, z_set_ne (by omega), hI27, z_set_ne (by omega)]]; exact a4⟩, by simpa [hI27, hI29, z_set, z_rel, z_cmp] using a5, by exact (show I29 i 7 = 0 from by simp [hI27, hI29, z_set]).trans (by decide : (0 : Int32) = nI 0), by simp [hI27, hI29, z_set, z_b2], fun q hq => by rw [show I29 (i + 4) = Ie25 (i + 4) from by rw [hI29, z_set_ne (by omega), hI27, z_set_ne (by omega)]]; exact a8 q hq, by simpa [hI27, hI29, z_set, z_rel, z_cmp] using a9, by simpa [hI27, hI29, z_set, z_rel, z_cmp] using a10⟩), o30⟩
            · skip
              refine ep_aload_n (i := 0) dX5_takeJoint_59 rfl rfl ?_
              refine ep_getR dX5_takeJoint_60 flX5_21 (by have := h.2.2.2.2.2.2.2.2.2.1; omega) h.1 h.2.2.2.2.2.2.2.2.1 ?_
              refine ep_aload_n (i := 0) dX5_takeJoint_63 rfl rfl ?_
              refine ep_getI dX5_takeJoint_64 flX5_56 (by have := h.2.2.2.2.2.2.2.2.2.1; omega) h.1 ?_
              refine ep_topE (y := nI R.2.2.1) hR.2.2.1 ?_
              refine ep_aload_n (i := 0) dX5_takeJoint_67 rfl rfl ?_
              refine ep_getR dX5_takeJoint_68 flX5_21 (by have := h.2.2.2.2.2.2.2.2.2.1; omega) h.1 h.2.2.2.2.2.2.2.2.1 ?_
              refine ep_aload_n (i := 0) dX5_takeJoint_71 rfl rfl ?_
              refine ep_getI dX5_takeJoint_72 flX5_56 (by have := h.2.2.2.2.2.2.2.2.2.1; omega) h.1 ?_
              refine ep_topE (y := nI R.2.2.1) hR.2.2.1 ?_
              refine ep_zaN (k := R.2.2.1) dX5_takeJoint_75 (by have := h.2.2.2.2.2.2.2.2.2.1; omega) h.2.2.2.2.1 (by omega) (by decide) ?_
              refine ep_topE (y := z_b2 (R.2.2.2.2.2.1 R.2.2.1)) (hR.2.2.2.2.2.1 R.2.2.1 (Nat.le_refl _)) ?_
              refine ep_if_ne (tgt := 84) dX5_takeJoint_76 (by decide) (fun c31 => ?_) (fun c31 => ?_)
              · skip
                refine ep_iconst (v := 1) dX5_takeJoint_84 (by decide) ?_
                refine ep_goto (tgt := 89) dX5_takeJoint_85 (by decide) ?_
                exact ep_topE (by first | exact z_or1 (by assumption) | exact z_or2 (decide_eq_true (Classical.not_not.mp (by assumption))) | exact z_or3 (by assumption) (fun g => absurd (of_decide_eq_true g) (by assumption))) K59
              · skip
                refine ep_iload_n (i := 2) dX5_takeJoint_79 rfl rfl ?_
                refine ep_iconst (v := 1) dX5_takeJoint_80 (by decide) ?_
                refine ep_icmp_ne (tgt := 88) dX5_takeJoint_81 (by decide) (fun c32 => ?_) (fun c32 => ?_)
                · skip
                  refine ep_iconst (v := 0) dX5_takeJoint_88 (by decide) ?_
                  exact ep_topE (by first | exact z_or1 (by assumption) | exact z_or2 (decide_eq_true (Classical.not_not.mp (by assumption))) | exact z_or3 (by assumption) (fun g => absurd (of_decide_eq_true g) (by assumption))) K59
                · skip
                  refine ep_iconst (v := 1) dX5_takeJoint_84 (by decide) ?_
                  refine ep_goto (tgt := 89) dX5_takeJoint_85 (by decide) ?_
                  exact ep_topE (by first | exact z_or1 (by assumption) | exact z_or2 (decide_eq_true (Classical.not_not.mp (by assumption))) | exact z_or3 (by assumption) (fun g => absurd (of_decide_eq_true g) (by assumption))) K59
          · skip
            refine ep_iconst (v := 0) dX5_takeJoint_57 (by decide) ?_
            refine ep_iret dX5_takeJoint_58 rfl rfl ?_
            have e : z_tj s R = none := by rw [z_tj, if_neg hdg, if_neg (by assumption), if_pos (by first | exact Or.inl (by assumption) | exact Or.inr ⟨Classical.not_not.mp (by assumption), z_b2t (by assumption)⟩)]
            exact ⟨by rw [e]; rfl, _, rfl, fun _ g => (by rw [e] at g; cases g), z_only.rf⟩
    · skip
      refine ep_aload_n (i := 0) dX5_takeJoint_26 rfl rfl ?_
      refine ep_callV (M1 := mX5_close) (rest := []) dX5_takeJoint_27 mlX5_100 mvX5_close rfl (by have := h.2.2.2.2.2.2.2.2.2.1; omega) h.1 (Nat.le_of_ble_eq_true rfl) rfl (q_X5_close d h hR hl hdp) z_oqok ?_
      rintro _ _ ⟨rfl, Ie33, rfl, hRe33, hoe33⟩
      show eb_P _ _ 30 [(0, .ref i), (1, .int s)] (.int (z_b2 (z_cl R).isSome) :: []) (n, sl, kd, Ie33, L, Rf) _
      have o34 : z_only (z_rc i) I Ie33 := z_only.tr (z_only.rf) hoe33
      refine ep_iret dX5_takeJoint_30 rfl (z_b2n _) ?_
      have e : z_tj s R = z_cl R := by rw [z_tj, if_neg hdg, if_pos (Classical.not_not.mp (by assumption))]
      exact ⟨by rw [e], _, rfl, fun _ g => hRe33 _ (by rw [e] at g; exact g), o34⟩
