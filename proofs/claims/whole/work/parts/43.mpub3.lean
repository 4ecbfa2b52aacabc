/-! the reference: sign, price, row, sheet -/
theorem z_by8 (v : Int32) : (v &&& 255).toInt8.toInt32 = v.toInt8.toInt32 := by
  apply Int32.toBitVec_inj.mp
  simp only [Int8.toBitVec_toInt32, Int32.toBitVec_toInt8, Int32.toBitVec_and]
  generalize v.toBitVec = x
  refine congrArg (BitVec.signExtend 32) ?_
  rw [BitVec.signExtend_eq_setWidth_of_le _ (by decide : 8 ≤ 32), BitVec.signExtend_eq_setWidth_of_le _ (by decide : 8 ≤ 32)]
  apply BitVec.eq_of_getLsbD_eq
  intro i hi
  have h255 : (Int32.toBitVec 255) = 255#32 := rfl
  rw [h255]
  have : i = 0 ∨ i = 1 ∨ i = 2 ∨ i = 3 ∨ i = 4 ∨ i = 5 ∨ i = 6 ∨ i = 7 := by omega
  rcases this with rfl | rfl | rfl | rfl | rfl | rfl | rfl | rfl <;> simp
theorem z_nb (v : Int32) : vp_nar .byte v = v.toInt8.toInt32 := rfl
theorem z_n88 (v : Int32) : v.toInt8.toInt32.toInt8.toInt32 = v.toInt8.toInt32 := by simp
def zpM1 (n : Nat) (sl : Nat × Nat) (kd : Nat → Nat × Nat) (I : Nat → Nat → Int32) (L : Nat → Nat → Int64) (Rf : Nat → Nat → Option Nat) (v : Option Value) (T : zT) : Option Value → eb_S → Prop := fun r τ => r = v ∧ ∃ I1 L1 R1, τ = (n, sl, kd, I1, L1, R1) ∧ zM n kd I1 L1 R1 T ∧ I1 112 9 = 1 ∧ ∀ c, c < 112 ∨ 136 < c → I1 c = I c ∧ L1 c = L c ∧ R1 c = Rf c
theorem z_app4 {l : List Int32} {a b c e : Int32} {k : Nat} (h : k < l.length + 4) : (l ++ [a, b, c, e]).getD k 0 = if k < l.length then l.getD k 0 else if k = l.length then a else if k = l.length + 1 then b else if k = l.length + 2 then c else e := by
  by_cases h1 : k < l.length
  · rw [if_pos h1]; simp [List.getD, List.getElem?_append_left h1]
  · rw [if_neg h1]
    have h2 : k = l.length ∨ k = l.length + 1 ∨ k = l.length + 2 ∨ k = l.length + 3 := by omega
    rcases h2 with rfl | rfl | rfl | rfl <;> simp [List.getD, List.getElem?_append_right]
theorem y_X11_sign_ok {n : Nat} {sl : Nat × Nat} {kd : Nat → Nat × Nat} {I : Nat → Nat → Int32} {L : Nat → Nat → Int64} {Rf : Nat → Nat → Option Nat} (d : Nat) {T : zT} {H : Nat} (hM : zM n kd I L Rf T) (hO : zOk H T) (v : Int32) (h4 : T.tx.length + 4 ≤ 80)  : zq mX11_sign (d + 20) [.ref 112, .int v] (n, sl, kd, I, L, Rf) (zpM n sl kd I L Rf (some (.int (s_sign T v).1)) (s_sign T v).2) := by
  intro f B
  refine ez_meth pn_X.2.2.2.2.2.2.2.2.2.2.2 (Nat.le_of_ble_eq_true rfl) ?_
  have hF := hM.F
  have hc7 := hO.c
  have hsp : s_sign T v = (nI (T.tx.length + 4), (T.w_tx (T.tx ++ [z_by v 0, z_by v 1, z_by v 2, z_by v 3]))) := (by unfold s_sign; rw [if_pos h4])
  rw [hsp]
  show ez_P _ _ _ _ _ _ 0 [(0, .ref 112), (1, .int v)] [] (n, sl, kd, I, L, Rf) _
  refine ez_aload_n (i := 0) dX11_sign_0 rfl rfl ?_
  refine ez_iconst (v := 0) dX11_sign_1 (by decide) ?_
  refine ez_pI dX11_sign_2 plX11_89 (hF.lt (by decide)) (hF.lx (by decide)) (hF.kc (by decide) rfl) rfl rfl ?_
  refine ez_nmI (fun I1 hI1 => ?_)
  have hM1 : zM n kd I1 L Rf T := by rw [hI1]; exact hM.f9
  refine ez_aload_n (i := 0) dX11_sign_5 rfl rfl ?_
  refine ez_getI dX11_sign_6 flX11_102 (hF.lt (by decide)) (hF.kc (by decide) rfl) ?_
  refine ez_topE (y := I 112 6) (by rw [hI1, z_set_nk (by decide)]) ?_
  refine ez_topE (y := nI T.tx.length) hM.tx.1 ?_
  refine ez_iconst (v := 4) dX11_sign_9 (by decide) ?_
  refine ez_iadd dX11_sign_10 ?_
  refine ez_topE (y := nI (T.tx.length + 4)) (nI_add _ _) ?_
  refine ez_bipush (v := 80) dX11_sign_11 (by decide) ?_
  refine ez_icmp_le (tgt := 18) dX11_sign_13 (by decide) (fun c2 => ?_) (fun c2 => absurd (by rw [show (80 : Int32) = nI 80 from rfl]; exact nI_le h4 (by decide)) c2)
  refine ez_iconst (v := 3) dX11_sign_18 (by decide) ?_
  refine ez_istore_n (l' := [(2, .int 3), (0, .ref 112), (1, .int v)]) dX11_sign_19 rfl (by decide) rfl ?_
  refine ez_iload_n (i := 2) dX11_sign_20 rfl rfl ?_
  refine ez_if_lt (tgt := 53) dX11_sign_21 (by decide) (fun c3 => absurd c3 (by decide)) (fun c3 => ?_)
  refine ez_aload_n (i := 0) dX11_sign_24 rfl rfl ?_
  refine ez_getR dX11_sign_25 flX11_23 (hF.lt (by decide)) (hF.kc (by decide) rfl) (hF.pt 110 rfl) ?_
  refine ez_aload_n (i := 0) dX11_sign_28 rfl rfl ?_
  refine ez_dup dX11_sign_29 rfl ?_
  refine ez_getI dX11_sign_30 flX11_102 (hF.lt (by decide)) (hF.kc (by decide) rfl) ?_
  refine ez_topE (y := I 112 6) (by rw [hI1, z_set_nk (by decide)]) ?_
  refine ez_topE (y := nI T.tx.length) hM.tx.1 ?_
  refine ez_dup_x1 dX11_sign_33 rfl rfl ?_
  refine ez_iconst (v := 1) dX11_sign_34 (by decide) ?_
  refine ez_iadd dX11_sign_35 ?_
  refine ez_topE (y := nI (T.tx.length + 1)) (nI_add _ _) ?_
  refine ez_pI dX11_sign_36 plX11_102 (hF.lt (by decide)) (hF.lx (by decide)) (hF.kc (by decide) rfl) rfl rfl ?_
  refine ez_nmI (fun I4 hI4 => ?_)
  refine ez_iload_n (i := 1) dX11_sign_39 rfl rfl ?_
  refine ez_bipush (v := 8) dX11_sign_40 (by decide) ?_
  refine ez_iload_n (i := 2) dX11_sign_42 rfl rfl ?_
  refine ez_imul dX11_sign_43 ?_
  refine ez_topE (y := 24) (by decide) ?_
  refine ez_ishr dX11_sign_44 ?_
  refine ez_i2b dX11_sign_45 rfl ?_
  refine ez_bsN (k := T.tx.length) dX11_sign_46 (hF.lt (by decide)) (hF.lx (by decide)) (hF.ka (by decide) rfl) (by omega) (by decide) ?_
  refine ez_nmI (fun I5 hI5 => ?_)
  refine ez_iinc (v := 2) (l' := [(2, .int 2), (0, .ref 112), (1, .int v)]) dX11_sign_47 rfl (by decide) (by decide) rfl ?_
  refine ez_goto (tgt := 20) dX11_sign_50 (by decide) ?_
  refine ez_iload_n (i := 2) dX11_sign_20 rfl rfl ?_
  refine ez_if_lt (tgt := 53) dX11_sign_21 (by decide) (fun c6 => absurd c6 (by decide)) (fun c6 => ?_)
  refine ez_aload_n (i := 0) dX11_sign_24 rfl rfl ?_
  refine ez_getR dX11_sign_25 flX11_23 (hF.lt (by decide)) (hF.kc (by decide) rfl) (hF.pt 110 rfl) ?_
  refine ez_aload_n (i := 0) dX11_sign_28 rfl rfl ?_
  refine ez_dup dX11_sign_29 rfl ?_
  refine ez_getI dX11_sign_30 flX11_102 (hF.lt (by decide)) (hF.kc (by decide) rfl) ?_
  refine ez_topE (y := nI (T.tx.length + 1)) (by rw [hI5, z_set_ne (by decide), hI4, z_set_at]) ?_
  refine ez_dup_x1 dX11_sign_33 rfl rfl ?_
  refine ez_iconst (v := 1) dX11_sign_34 (by decide) ?_
  refine ez_iadd dX11_sign_35 ?_
  refine ez_topE (y := nI ((T.tx.length + 1) + 1)) (nI_add _ _) ?_
  refine ez_pI dX11_sign_36 plX11_102 (hF.lt (by decide)) (hF.lx (by decide)) (hF.kc (by decide) rfl) rfl rfl ?_
  refine ez_nmI (fun I7 hI7 => ?_)
  refine ez_iload_n (i := 1) dX11_sign_39 rfl rfl ?_
  refine ez_bipush (v := 8) dX11_sign_40 (by decide) ?_
  refine ez_iload_n (i := 2) dX11_sign_42 rfl rfl ?_
  refine ez_imul dX11_sign_43 ?_
  refine ez_topE (y := 16) (by decide) ?_
  refine ez_ishr dX11_sign_44 ?_
  refine ez_i2b dX11_sign_45 rfl ?_
  refine ez_bsN (k := (T.tx.length + 1)) dX11_sign_46 (hF.lt (by decide)) (hF.lx (by decide)) (hF.ka (by decide) rfl) (by omega) (by decide) ?_
  refine ez_nmI (fun I8 hI8 => ?_)
  refine ez_iinc (v := 1) (l' := [(2, .int 1), (0, .ref 112), (1, .int v)]) dX11_sign_47 rfl (by decide) (by decide) rfl ?_
  refine ez_goto (tgt := 20) dX11_sign_50 (by decide) ?_
  refine ez_iload_n (i := 2) dX11_sign_20 rfl rfl ?_
  refine ez_if_lt (tgt := 53) dX11_sign_21 (by decide) (fun c9 => absurd c9 (by decide)) (fun c9 => ?_)
  refine ez_aload_n (i := 0) dX11_sign_24 rfl rfl ?_
  refine ez_getR dX11_sign_25 flX11_23 (hF.lt (by decide)) (hF.kc (by decide) rfl) (hF.pt 110 rfl) ?_
  refine ez_aload_n (i := 0) dX11_sign_28 rfl rfl ?_
  refine ez_dup dX11_sign_29 rfl ?_
  refine ez_getI dX11_sign_30 flX11_102 (hF.lt (by decide)) (hF.kc (by decide) rfl) ?_
  refine ez_topE (y := nI ((T.tx.length + 1) + 1)) (by rw [hI8, z_set_ne (by decide), hI7, z_set_at]) ?_
  refine ez_dup_x1 dX11_sign_33 rfl rfl ?_
  refine ez_iconst (v := 1) dX11_sign_34 (by decide) ?_
  refine ez_iadd dX11_sign_35 ?_
  refine ez_topE (y := nI (((T.tx.length + 1) + 1) + 1)) (nI_add _ _) ?_
  refine ez_pI dX11_sign_36 plX11_102 (hF.lt (by decide)) (hF.lx (by decide)) (hF.kc (by decide) rfl) rfl rfl ?_
  refine ez_nmI (fun I10 hI10 => ?_)
  refine ez_iload_n (i := 1) dX11_sign_39 rfl rfl ?_
  refine ez_bipush (v := 8) dX11_sign_40 (by decide) ?_
  refine ez_iload_n (i := 2) dX11_sign_42 rfl rfl ?_
  refine ez_imul dX11_sign_43 ?_
  refine ez_topE (y := 8) (by decide) ?_
  refine ez_ishr dX11_sign_44 ?_
  refine ez_i2b dX11_sign_45 rfl ?_
  refine ez_bsN (k := ((T.tx.length + 1) + 1)) dX11_sign_46 (hF.lt (by decide)) (hF.lx (by decide)) (hF.ka (by decide) rfl) (by omega) (by decide) ?_
  refine ez_nmI (fun I11 hI11 => ?_)
  refine ez_iinc (v := 0) (l' := [(2, .int 0), (0, .ref 112), (1, .int v)]) dX11_sign_47 rfl (by decide) (by decide) rfl ?_
  refine ez_goto (tgt := 20) dX11_sign_50 (by decide) ?_
  refine ez_iload_n (i := 2) dX11_sign_20 rfl rfl ?_
  refine ez_if_lt (tgt := 53) dX11_sign_21 (by decide) (fun c12 => absurd c12 (by decide)) (fun c12 => ?_)
  refine ez_aload_n (i := 0) dX11_sign_24 rfl rfl ?_
  refine ez_getR dX11_sign_25 flX11_23 (hF.lt (by decide)) (hF.kc (by decide) rfl) (hF.pt 110 rfl) ?_
  refine ez_aload_n (i := 0) dX11_sign_28 rfl rfl ?_
  refine ez_dup dX11_sign_29 rfl ?_
  refine ez_getI dX11_sign_30 flX11_102 (hF.lt (by decide)) (hF.kc (by decide) rfl) ?_
  refine ez_topE (y := nI (((T.tx.length + 1) + 1) + 1)) (by rw [hI11, z_set_ne (by decide), hI10, z_set_at]) ?_
  refine ez_dup_x1 dX11_sign_33 rfl rfl ?_
  refine ez_iconst (v := 1) dX11_sign_34 (by decide) ?_
  refine ez_iadd dX11_sign_35 ?_
  refine ez_topE (y := nI ((((T.tx.length + 1) + 1) + 1) + 1)) (nI_add _ _) ?_
  refine ez_pI dX11_sign_36 plX11_102 (hF.lt (by decide)) (hF.lx (by decide)) (hF.kc (by decide) rfl) rfl rfl ?_
  refine ez_nmI (fun I13 hI13 => ?_)
  refine ez_iload_n (i := 1) dX11_sign_39 rfl rfl ?_
  refine ez_bipush (v := 8) dX11_sign_40 (by decide) ?_
  refine ez_iload_n (i := 2) dX11_sign_42 rfl rfl ?_
  refine ez_imul dX11_sign_43 ?_
  refine ez_topE (y := 0) (by decide) ?_
  refine ez_ishr dX11_sign_44 ?_
  refine ez_i2b dX11_sign_45 rfl ?_
  refine ez_bsN (k := (((T.tx.length + 1) + 1) + 1)) dX11_sign_46 (hF.lt (by decide)) (hF.lx (by decide)) (hF.ka (by decide) rfl) (by omega) (by decide) ?_
  refine ez_nmI (fun I14 hI14 => ?_)
  refine ez_iinc (v := (-1)) (l' := [(2, .int ((-1))), (0, .ref 112), (1, .int v)]) dX11_sign_47 rfl (by decide) (by decide) rfl ?_
  refine ez_goto (tgt := 20) dX11_sign_50 (by decide) ?_
  refine ez_iload_n (i := 2) dX11_sign_20 rfl rfl ?_
  refine ez_if_lt (tgt := 53) dX11_sign_21 (by decide) (fun c15 => ?_) (fun c15 => absurd (by decide) c15)
  refine ez_aload_n (i := 0) dX11_sign_53 rfl rfl ?_
  refine ez_getI dX11_sign_54 flX11_102 (hF.lt (by decide)) (hF.kc (by decide) rfl) ?_
  refine ez_topE (y := nI ((((T.tx.length + 1) + 1) + 1) + 1)) (by rw [hI14, z_set_ne (by decide), hI13, z_set_at]) ?_
  refine ez_iret dX11_sign_57 rfl rfl ?_
  have hJ : ∀ c, c ≠ 112 → c ≠ 116 → I14 c = I c := fun c g112 g116 => by rw [hI14, z_set_ne (by omega), hI13, z_set_ne (by omega), hI11, z_set_ne (by omega), hI10, z_set_ne (by omega), hI8, z_set_ne (by omega), hI7, z_set_ne (by omega), hI5, z_set_ne (by omega), hI4, z_set_ne (by omega), hI1, z_set_ne (by omega)]
  have hJf : ∀ k, k ≠ 6 → k ≠ 9 → I14 112 k = I 112 k := fun k g6 g9 => by rw [hI14, z_set_ne (by decide), hI13, z_set_nk (by omega), hI11, z_set_ne (by decide), hI10, z_set_nk (by omega), hI8, z_set_ne (by decide), hI7, z_set_nk (by omega), hI5, z_set_ne (by decide), hI4, z_set_nk (by omega), hI1, z_set_nk (by omega)]
  exact ⟨rfl, _, _, _, rfl, ⟨hM.F, hM.ru, (by rw [(hJf 18 (by decide) (by decide)), (hJ 119 (by decide) (by decide))]; exact hM.rv), ⟨(by rw [hI14, z_set_ne (by decide), hI13, z_set_at]; show _ = nI (T.tx ++ [z_by v 0, z_by v 1, z_by v 2, z_by v 3]).length; simp), fun k hk => (by
      have hk : k < (T.tx ++ [z_by v 0, z_by v 1, z_by v 2, z_by v 3]).length := hk
      simp only [List.length_append, List.length_cons, List.length_nil] at hk
      show I14 116 k = ((T.tx ++ [z_by v 0, z_by v 1, z_by v 2, z_by v 3]).getD k 0).toInt8.toInt32
      rw [z_app4 (by omega)]
      by_cases h1 : k < T.tx.length
      · rw [if_pos h1, hI14, z_set_nk (by omega), hI13, z_set_ne (by decide), hI11, z_set_nk (by omega), hI10, z_set_ne (by decide), hI8, z_set_nk (by omega), hI7, z_set_ne (by decide), hI5, z_set_nk (by omega), hI4, z_set_ne (by decide), hI1, z_set_ne (by decide)]; exact hM.tx.2 k h1
      · rw [if_neg h1]
        have h2 : k = T.tx.length ∨ k = T.tx.length + 1 ∨ k = T.tx.length + 2 ∨ k = T.tx.length + 3 := by omega
        rcases h2 with rfl | rfl | rfl | rfl
        · rw [if_pos rfl]; exact (by rw [hI14, z_set_nk (by omega), hI13, z_set_ne (by decide), hI11, z_set_nk (by omega), hI10, z_set_ne (by decide), hI8, z_set_nk (by omega), hI7, z_set_ne (by decide), hI5, z_set_at, z_nb, z_n88]; unfold z_by; rw [z_by8]; rfl)
        · rw [if_neg (by omega), if_pos rfl]; exact (by rw [hI14, z_set_nk (by omega), hI13, z_set_ne (by decide), hI11, z_set_nk (by omega), hI10, z_set_ne (by decide), hI8, z_set_at, z_nb, z_n88]; unfold z_by; rw [z_by8]; rfl)
        · rw [if_neg (by omega), if_neg (by omega), if_pos rfl]; exact (by rw [hI14, z_set_nk (by omega), hI13, z_set_ne (by decide), hI11, z_set_at, z_nb, z_n88]; unfold z_by; rw [z_by8]; rfl)
        · rw [if_neg (by omega), if_neg (by omega), if_neg (by omega)]; exact (by rw [hI14, z_set_at, z_nb, z_n88]; unfold z_by; rw [z_by8]; rfl))⟩, ⟨(hJf 8 (by decide) (by decide)).trans hM.rw.1, hM.rw.2⟩, (by rw [(hJ 114 (by decide) (by decide))]; exact hM.pr), ((hJf 4 (by decide) (by decide)).trans hM.wm), (by rw [(hJ 115 (by decide) (by decide))]; exact hM.wd), ((hJf 1 (by decide) (by decide)).trans hM.c), (by rw [(hJ 113 (by decide) (by decide))]; exact hM.x), (by rw [(hJf 22 (by decide) (by decide)), (hJ 122 (by decide) (by decide))]; exact hM.un), (by rw [(hJf 38 (by decide) (by decide)), (hJ 134 (by decide) (by decide)), (hJ 135 (by decide) (by decide)), (hJ 136 (by decide) (by decide))]; exact hM.kp), (by rw [(hJf 30 (by decide) (by decide)), (hJ 126 (by decide) (by decide)), (hJ 127 (by decide) (by decide)), (hJ 128 (by decide) (by decide))]; exact hM.sn), (by rw [(hJf 34 (by decide) (by decide)), (hJ 130 (by decide) (by decide)), (hJ 131 (by decide) (by decide))]; exact hM.hd)⟩, (by rw [hI14, z_set_ne (by decide), hI13, z_set_nk (by decide), hI11, z_set_ne (by decide), hI10, z_set_nk (by decide), hI8, z_set_ne (by decide), hI7, z_set_nk (by decide), hI5, z_set_ne (by decide), hI4, z_set_nk (by decide), hI1, z_set_at]), fun c hc => ⟨hJ c (by omega) (by omega), rfl, rfl⟩⟩
theorem y_X11_sign_no {n : Nat} {sl : Nat × Nat} {kd : Nat → Nat × Nat} {I : Nat → Nat → Int32} {L : Nat → Nat → Int64} {Rf : Nat → Nat → Option Nat} (d : Nat) {T : zT} {H : Nat} (hM : zM n kd I L Rf T) (hO : zOk H T) (v : Int32) (h4 : ¬ T.tx.length + 4 ≤ 80)  : zq mX11_sign (d + 20) [.ref 112, .int v] (n, sl, kd, I, L, Rf) (zpM n sl kd I L Rf (some (.int (s_sign T v).1)) (s_sign T v).2) := by
  intro f B
  refine ez_meth pn_X.2.2.2.2.2.2.2.2.2.2.2 (Nat.le_of_ble_eq_true rfl) ?_
  have hF := hM.F
  have hc7 := hO.c
  have hsp : s_sign T v = (-1, T) := (by unfold s_sign; rw [if_neg h4])
  rw [hsp]
  show ez_P _ _ _ _ _ _ 0 [(0, .ref 112), (1, .int v)] [] (n, sl, kd, I, L, Rf) _
  refine ez_aload_n (i := 0) dX11_sign_0 rfl rfl ?_
  refine ez_iconst (v := 0) dX11_sign_1 (by decide) ?_
  refine ez_pI dX11_sign_2 plX11_89 (hF.lt (by decide)) (hF.lx (by decide)) (hF.kc (by decide) rfl) rfl rfl ?_
  refine ez_nmI (fun I1 hI1 => ?_)
  have hM1 : zM n kd I1 L Rf T := by rw [hI1]; exact hM.f9
  refine ez_aload_n (i := 0) dX11_sign_5 rfl rfl ?_
  refine ez_getI dX11_sign_6 flX11_102 (hF.lt (by decide)) (hF.kc (by decide) rfl) ?_
  refine ez_topE (y := I 112 6) (by rw [hI1, z_set_nk (by decide)]) ?_
  refine ez_topE (y := nI T.tx.length) hM.tx.1 ?_
  refine ez_iconst (v := 4) dX11_sign_9 (by decide) ?_
  refine ez_iadd dX11_sign_10 ?_
  refine ez_topE (y := nI (T.tx.length + 4)) (nI_add _ _) ?_
  refine ez_bipush (v := 80) dX11_sign_11 (by decide) ?_
  refine ez_icmp_le (tgt := 18) dX11_sign_13 (by decide) (fun c2 => absurd c2 (by rw [show (80 : Int32) = nI 80 from rfl]; exact nI_ge (by omega) (by have := hO.txl; omega))) (fun c2 => ?_)
  refine ez_iconst (v := (-1)) dX11_sign_16 (by decide) ?_
  refine ez_iret dX11_sign_17 rfl rfl ?_
  have hJ : ∀ c, c ≠ 112 → I1 c = I c := fun c g112 => by rw [hI1, z_set_ne (by omega)]
  have hJf : ∀ k, k ≠ 9 → I1 112 k = I 112 k := fun k g9 => by rw [hI1, z_set_nk (by omega)]
  exact ⟨rfl, _, _, _, rfl, ⟨hM.F, hM.ru, (by rw [(hJf 18 (by decide)), (hJ 119 (by decide))]; exact hM.rv), ⟨(hJf 6 (by decide)).trans hM.tx.1, fun k hk => by rw [(hJ 116 (by decide))]; exact hM.tx.2 k hk⟩, ⟨(hJf 8 (by decide)).trans hM.rw.1, hM.rw.2⟩, (by rw [(hJ 114 (by decide))]; exact hM.pr), ((hJf 4 (by decide)).trans hM.wm), (by rw [(hJ 115 (by decide))]; exact hM.wd), ((hJf 1 (by decide)).trans hM.c), (by rw [(hJ 113 (by decide))]; exact hM.x), (by rw [(hJf 22 (by decide)), (hJ 122 (by decide))]; exact hM.un), (by rw [(hJf 38 (by decide)), (hJ 134 (by decide)), (hJ 135 (by decide)), (hJ 136 (by decide))]; exact hM.kp), (by rw [(hJf 30 (by decide)), (hJ 126 (by decide)), (hJ 127 (by decide)), (hJ 128 (by decide))]; exact hM.sn), (by rw [(hJf 34 (by decide)), (hJ 130 (by decide)), (hJ 131 (by decide))]; exact hM.hd)⟩, (by rw [hI1, z_set_at]), fun c hc => ⟨hJ c (by omega), rfl, rfl⟩⟩
theorem y_X11_sign {n : Nat} {sl : Nat × Nat} {kd : Nat → Nat × Nat} {I : Nat → Nat → Int32} {L : Nat → Nat → Int64} {Rf : Nat → Nat → Option Nat} (d : Nat) {T : zT} {H : Nat} (hM : zM n kd I L Rf T) (hO : zOk H T) (v : Int32) : zq mX11_sign (d + 20) [.ref 112, .int v] (n, sl, kd, I, L, Rf) (zpM n sl kd I L Rf (some (.int (s_sign T v).1)) (s_sign T v).2) := by
  by_cases h4 : T.tx.length + 4 ≤ 80
  · exact y_X11_sign_ok d hM hO v h4
  · exact y_X11_sign_no d hM hO v h4
theorem y_X11_price_ok {n : Nat} {sl : Nat × Nat} {kd : Nat → Nat × Nat} {I : Nat → Nat → Int32} {L : Nat → Nat → Int64} {Rf : Nat → Nat → Option Nat} (d : Nat) {T : zT} {H : Nat} (hM : zM n kd I L Rf T) (hO : zOk H T) {t0 : Nat} (ht : t0 < 6)  : zq mX11_price (d + 20) [.ref 112, .int (nI t0)] (n, sl, kd, I, L, Rf) (zpM n sl kd I L Rf (some (.int (T.pr t0))) T) := by
  intro f B
  refine ez_meth pn_X.2.2.2.2.2.2.2.2.2.2.2 (Nat.le_of_ble_eq_true rfl) ?_
  have hF := hM.F
  have hc7 := hO.c; have hrl := hO.rwl
  show ez_P _ _ _ _ _ _ 0 [(0, .ref 112), (1, .int (nI t0))] [] (n, sl, kd, I, L, Rf) _
  refine ez_aload_n (i := 0) dX11_price_0 rfl rfl ?_
  refine ez_iconst (v := 0) dX11_price_1 (by decide) ?_
  refine ez_pI dX11_price_2 plX11_89 (hF.lt (by decide)) (hF.lx (by decide)) (hF.kc (by decide) rfl) rfl rfl ?_
  refine ez_nmI (fun I1 hI1 => ?_)
  have hM1 : zM n kd I1 L Rf T := by rw [hI1]; exact hM.f9
  refine ez_iload_n (i := 1) dX11_price_5 rfl rfl ?_
  refine ez_iconst (v := 0) dX11_price_6 (by decide) ?_
  refine ez_iconst (v := 5) dX11_price_7 (by decide) ?_
  refine ez_callS (M1 := mX11_in) (rest := []) dX11_price_8 mlX11_98 msX11_in rfl (Nat.le_of_ble_eq_true rfl) rfl (zq_b1 ⟨nI_pos' (by omega), nI_le (a := t0) (b := 5) (by omega) (by decide)⟩ (zq_b (q_X11_in (d + 19) (nI t0) 0 5) (n, sl, kd, I1, L, Rf))) eb_rok ?_
  rintro _ _ ⟨rfl, rfl⟩
  show ez_P _ _ _ _ _ _ 11 [(0, .ref 112), (1, .int (nI t0))] (.int 1 :: []) _ _
  refine ez_if_eq (tgt := 23) dX11_price_11 (by decide) (fun c2 => absurd c2 (by decide)) (fun c2 => ?_)
  refine ez_aload_n (i := 0) dX11_price_14 rfl rfl ?_
  refine ez_getR dX11_price_15 flX11_13 (hF.lt (by decide)) (hF.kc (by decide) rfl) (hF.pt 108 rfl) ?_
  refine ez_iload_n (i := 1) dX11_price_18 rfl rfl ?_
  refine ez_iaN (k := t0) dX11_price_19 (hF.lt (by decide)) (hF.ka (by decide) rfl) (by omega) (by decide) ?_
  refine ez_topE (y := I 114 t0) (by rw [hI1, z_set_ne (by decide)]) ?_
  refine ez_topE (y := T.pr t0) (hM.pr t0 ht) ?_
  refine ez_goto (tgt := 27) dX11_price_20 (by decide) ?_
  refine ez_iret dX11_price_27 rfl rfl ?_
  have hJ : ∀ c, c ≠ 112 → I1 c = I c := fun c g112 => by rw [hI1, z_set_ne (by omega)]
  have hJf : ∀ k, k ≠ 9 → I1 112 k = I 112 k := fun k g9 => by rw [hI1, z_set_nk (by omega)]
  exact ⟨rfl, _, _, _, rfl, ⟨hM.F, hM.ru, (by rw [(hJf 18 (by decide)), (hJ 119 (by decide))]; exact hM.rv), ⟨(hJf 6 (by decide)).trans hM.tx.1, fun k hk => by rw [(hJ 116 (by decide))]; exact hM.tx.2 k hk⟩, ⟨(hJf 8 (by decide)).trans hM.rw.1, hM.rw.2⟩, (by rw [(hJ 114 (by decide))]; exact hM.pr), ((hJf 4 (by decide)).trans hM.wm), (by rw [(hJ 115 (by decide))]; exact hM.wd), ((hJf 1 (by decide)).trans hM.c), (by rw [(hJ 113 (by decide))]; exact hM.x), (by rw [(hJf 22 (by decide)), (hJ 122 (by decide))]; exact hM.un), (by rw [(hJf 38 (by decide)), (hJ 134 (by decide)), (hJ 135 (by decide)), (hJ 136 (by decide))]; exact hM.kp), (by rw [(hJf 30 (by decide)), (hJ 126 (by decide)), (hJ 127 (by decide)), (hJ 128 (by decide))]; exact hM.sn), (by rw [(hJf 34 (by decide)), (hJ 130 (by decide)), (hJ 131 (by decide))]; exact hM.hd)⟩, (by rw [hI1, z_set_at]), fun c hc => ⟨hJ c (by omega), rfl, rfl⟩⟩
theorem y_X11_price_no {n : Nat} {sl : Nat × Nat} {kd : Nat → Nat × Nat} {I : Nat → Nat → Int32} {L : Nat → Nat → Int64} {Rf : Nat → Nat → Option Nat} (d : Nat) {T : zT} {H : Nat} (hM : zM n kd I L Rf T) (hO : zOk H T) {t : Int32} (ht : ¬ (0 ≤ t ∧ t ≤ 5))  : zq mX11_price (d + 20) [.ref 112, .int t] (n, sl, kd, I, L, Rf) (zpM1 n sl kd I L Rf (some (.int 0)) T) := by
  intro f B
  refine ez_meth pn_X.2.2.2.2.2.2.2.2.2.2.2 (Nat.le_of_ble_eq_true rfl) ?_
  have hF := hM.F
  have hc7 := hO.c; have hrl := hO.rwl
  show ez_P _ _ _ _ _ _ 0 [(0, .ref 112), (1, .int t)] [] (n, sl, kd, I, L, Rf) _
  refine ez_aload_n (i := 0) dX11_price_0 rfl rfl ?_
  refine ez_iconst (v := 0) dX11_price_1 (by decide) ?_
  refine ez_pI dX11_price_2 plX11_89 (hF.lt (by decide)) (hF.lx (by decide)) (hF.kc (by decide) rfl) rfl rfl ?_
  refine ez_nmI (fun I1 hI1 => ?_)
  have hM1 : zM n kd I1 L Rf T := by rw [hI1]; exact hM.f9
  refine ez_iload_n (i := 1) dX11_price_5 rfl rfl ?_
  refine ez_iconst (v := 0) dX11_price_6 (by decide) ?_
  refine ez_iconst (v := 5) dX11_price_7 (by decide) ?_
  refine ez_callS (M1 := mX11_in) (rest := []) dX11_price_8 mlX11_98 msX11_in rfl (Nat.le_of_ble_eq_true rfl) rfl (zq_b0 ht (zq_b (q_X11_in (d + 19) t 0 5) (n, sl, kd, I1, L, Rf))) eb_rok ?_
  rintro _ _ ⟨rfl, rfl⟩
  show ez_P _ _ _ _ _ _ 11 [(0, .ref 112), (1, .int t)] (.int 0 :: []) _ _
  refine ez_if_eq (tgt := 23) dX11_price_11 (by decide) (fun c2 => ?_) (fun c2 => absurd (by decide) c2)
  refine ez_aload_n (i := 0) dX11_price_23 rfl rfl ?_
  refine ez_callV (M1 := mX11_lost) (rest := []) dX11_price_24 mlX11_225 mvX11_lost rfl (hF.lt (by decide)) (hF.kc (by decide) rfl) (Nat.le_of_ble_eq_true rfl) rfl (y_X11_lost (I := I1) (d + 19) hF) (fun _ _ g => Or.inl (by rw [g.1])) ?_
  rintro _ _ ⟨rfl, rfl⟩
  show ez_P _ _ _ _ _ _ 27 [(0, .ref 112), (1, .int t)] (.int 0 :: []) (n, sl, kd, z_set I1 112 9 1, L, Rf) _
  refine ez_nmI (fun I3 hI3 => ?_)
  refine ez_iret dX11_price_27 rfl rfl ?_
  have hJ : ∀ c, c ≠ 112 → I3 c = I c := fun c g112 => by rw [hI3, z_set_ne (by omega), hI1, z_set_ne (by omega)]
  have hJf : ∀ k, k ≠ 9 → I3 112 k = I 112 k := fun k g9 => by rw [hI3, z_set_nk (by omega), hI1, z_set_nk (by omega)]
  exact ⟨rfl, _, _, _, rfl, ⟨hM.F, hM.ru, (by rw [(hJf 18 (by decide)), (hJ 119 (by decide))]; exact hM.rv), ⟨(hJf 6 (by decide)).trans hM.tx.1, fun k hk => by rw [(hJ 116 (by decide))]; exact hM.tx.2 k hk⟩, ⟨(hJf 8 (by decide)).trans hM.rw.1, hM.rw.2⟩, (by rw [(hJ 114 (by decide))]; exact hM.pr), ((hJf 4 (by decide)).trans hM.wm), (by rw [(hJ 115 (by decide))]; exact hM.wd), ((hJf 1 (by decide)).trans hM.c), (by rw [(hJ 113 (by decide))]; exact hM.x), (by rw [(hJf 22 (by decide)), (hJ 122 (by decide))]; exact hM.un), (by rw [(hJf 38 (by decide)), (hJ 134 (by decide)), (hJ 135 (by decide)), (hJ 136 (by decide))]; exact hM.kp), (by rw [(hJf 30 (by decide)), (hJ 126 (by decide)), (hJ 127 (by decide)), (hJ 128 (by decide))]; exact hM.sn), (by rw [(hJf 34 (by decide)), (hJ 130 (by decide)), (hJ 131 (by decide))]; exact hM.hd)⟩, (by rw [hI3, z_set_at]), fun c hc => ⟨hJ c (by omega), rfl, rfl⟩⟩
theorem y_X11_row_ok {n : Nat} {sl : Nat × Nat} {kd : Nat → Nat × Nat} {I : Nat → Nat → Int32} {L : Nat → Nat → Int64} {Rf : Nat → Nat → Option Nat} (d : Nat) {T : zT} {H : Nat} (hM : zM n kd I L Rf T) (hO : zOk H T) {i0 : Nat} (hi : i0 < T.rw.length)  : zq mX11_row (d + 20) [.ref 112, .int (nI i0)] (n, sl, kd, I, L, Rf) (zpM n sl kd I L Rf (some (.long (T.rw.getD i0 0))) T) := by
  intro f B
  refine ez_meth pn_X.2.2.2.2.2.2.2.2.2.2.2 (Nat.le_of_ble_eq_true rfl) ?_
  have hF := hM.F
  have hc7 := hO.c; have hrl := hO.rwl
  show ez_P _ _ _ _ _ _ 0 [(0, .ref 112), (1, .int (nI i0))] [] (n, sl, kd, I, L, Rf) _
  refine ez_aload_n (i := 0) dX11_row_0 rfl rfl ?_
  refine ez_iconst (v := 0) dX11_row_1 (by decide) ?_
  refine ez_pI dX11_row_2 plX11_89 (hF.lt (by decide)) (hF.lx (by decide)) (hF.kc (by decide) rfl) rfl rfl ?_
  refine ez_nmI (fun I1 hI1 => ?_)
  have hM1 : zM n kd I1 L Rf T := by rw [hI1]; exact hM.f9
  refine ez_iload_n (i := 1) dX11_row_5 rfl rfl ?_
  refine ez_iconst (v := 0) dX11_row_6 (by decide) ?_
  refine ez_aload_n (i := 0) dX11_row_7 rfl rfl ?_
  refine ez_getI dX11_row_8 flX11_92 (hF.lt (by decide)) (hF.kc (by decide) rfl) ?_
  refine ez_topE (y := I 112 8) (by rw [hI1, z_set_nk (by decide)]) ?_
  refine ez_topE (y := nI T.rw.length) hM.rw.1 ?_
  refine ez_iconst (v := 1) dX11_row_11 (by decide) ?_
  refine ez_isub dX11_row_12 ?_
  refine ez_callS (M1 := mX11_in) (rest := []) dX11_row_13 mlX11_98 msX11_in rfl (Nat.le_of_ble_eq_true rfl) rfl (zq_b1 ⟨nI_pos' (by omega), by rw [show (1 : Int32) = nI 1 from rfl, pk_sub (by omega)]; exact nI_le (by omega) (by omega)⟩ (zq_b (q_X11_in (d + 19) (nI i0) 0 (nI T.rw.length - 1)) (n, sl, kd, I1, L, Rf))) eb_rok ?_
  rintro _ _ ⟨rfl, rfl⟩
  show ez_P _ _ _ _ _ _ 16 [(0, .ref 112), (1, .int (nI i0))] (.int 1 :: []) _ _
  refine ez_if_eq (tgt := 28) dX11_row_16 (by decide) (fun c2 => absurd c2 (by decide)) (fun c2 => ?_)
  refine ez_aload_n (i := 0) dX11_row_19 rfl rfl ?_
  refine ez_getR dX11_row_20 flX11_27 (hF.lt (by decide)) (hF.kc (by decide) rfl) (hF.pt 111 rfl) ?_
  refine ez_iload_n (i := 1) dX11_row_23 rfl rfl ?_
  refine ez_laN (k := i0) dX11_row_24 (hF.lt (by decide)) (hF.ka (by decide) rfl) (by have := hO.rwl; omega) (by decide) ?_
  refine ez_goto (tgt := 33) dX11_row_25 (by decide) ?_
  refine ez_lret dX11_row_33 rfl ?_
  have hJ : ∀ c, c ≠ 112 → I1 c = I c := fun c g112 => by rw [hI1, z_set_ne (by omega)]
  have hJf : ∀ k, k ≠ 9 → I1 112 k = I 112 k := fun k g9 => by rw [hI1, z_set_nk (by omega)]
  rw [← hM.rw.2 i0 hi]
  exact ⟨rfl, _, _, _, rfl, ⟨hM.F, hM.ru, (by rw [(hJf 18 (by decide)), (hJ 119 (by decide))]; exact hM.rv), ⟨(hJf 6 (by decide)).trans hM.tx.1, fun k hk => by rw [(hJ 116 (by decide))]; exact hM.tx.2 k hk⟩, ⟨(hJf 8 (by decide)).trans hM.rw.1, hM.rw.2⟩, (by rw [(hJ 114 (by decide))]; exact hM.pr), ((hJf 4 (by decide)).trans hM.wm), (by rw [(hJ 115 (by decide))]; exact hM.wd), ((hJf 1 (by decide)).trans hM.c), (by rw [(hJ 113 (by decide))]; exact hM.x), (by rw [(hJf 22 (by decide)), (hJ 122 (by decide))]; exact hM.un), (by rw [(hJf 38 (by decide)), (hJ 134 (by decide)), (hJ 135 (by decide)), (hJ 136 (by decide))]; exact hM.kp), (by rw [(hJf 30 (by decide)), (hJ 126 (by decide)), (hJ 127 (by decide)), (hJ 128 (by decide))]; exact hM.sn), (by rw [(hJf 34 (by decide)), (hJ 130 (by decide)), (hJ 131 (by decide))]; exact hM.hd)⟩, (by rw [hI1, z_set_at]), fun c hc => ⟨hJ c (by omega), rfl, rfl⟩⟩
theorem y_X11_row_no {n : Nat} {sl : Nat × Nat} {kd : Nat → Nat × Nat} {I : Nat → Nat → Int32} {L : Nat → Nat → Int64} {Rf : Nat → Nat → Option Nat} (d : Nat) {T : zT} {H : Nat} (hM : zM n kd I L Rf T) (hO : zOk H T) {i : Int32} (hi : ¬ (0 ≤ i ∧ i ≤ nI T.rw.length - 1))  : zq mX11_row (d + 20) [.ref 112, .int i] (n, sl, kd, I, L, Rf) (zpM1 n sl kd I L Rf (some (.long 0)) T) := by
  intro f B
  refine ez_meth pn_X.2.2.2.2.2.2.2.2.2.2.2 (Nat.le_of_ble_eq_true rfl) ?_
  have hF := hM.F
  have hc7 := hO.c; have hrl := hO.rwl
  show ez_P _ _ _ _ _ _ 0 [(0, .ref 112), (1, .int i)] [] (n, sl, kd, I, L, Rf) _
  refine ez_aload_n (i := 0) dX11_row_0 rfl rfl ?_
  refine ez_iconst (v := 0) dX11_row_1 (by decide) ?_
  refine ez_pI dX11_row_2 plX11_89 (hF.lt (by decide)) (hF.lx (by decide)) (hF.kc (by decide) rfl) rfl rfl ?_
  refine ez_nmI (fun I1 hI1 => ?_)
  have hM1 : zM n kd I1 L Rf T := by rw [hI1]; exact hM.f9
  refine ez_iload_n (i := 1) dX11_row_5 rfl rfl ?_
  refine ez_iconst (v := 0) dX11_row_6 (by decide) ?_
  refine ez_aload_n (i := 0) dX11_row_7 rfl rfl ?_
  refine ez_getI dX11_row_8 flX11_92 (hF.lt (by decide)) (hF.kc (by decide) rfl) ?_
  refine ez_topE (y := I 112 8) (by rw [hI1, z_set_nk (by decide)]) ?_
  refine ez_topE (y := nI T.rw.length) hM.rw.1 ?_
  refine ez_iconst (v := 1) dX11_row_11 (by decide) ?_
  refine ez_isub dX11_row_12 ?_
  refine ez_callS (M1 := mX11_in) (rest := []) dX11_row_13 mlX11_98 msX11_in rfl (Nat.le_of_ble_eq_true rfl) rfl (zq_b0 hi (zq_b (q_X11_in (d + 19) i 0 (nI T.rw.length - 1)) (n, sl, kd, I1, L, Rf))) eb_rok ?_
  rintro _ _ ⟨rfl, rfl⟩
  show ez_P _ _ _ _ _ _ 16 [(0, .ref 112), (1, .int i)] (.int 0 :: []) _ _
  refine ez_if_eq (tgt := 28) dX11_row_16 (by decide) (fun c2 => ?_) (fun c2 => absurd (by decide) c2)
  refine ez_aload_n (i := 0) dX11_row_28 rfl rfl ?_
  refine ez_callV (M1 := mX11_lost) (rest := []) dX11_row_29 mlX11_225 mvX11_lost rfl (hF.lt (by decide)) (hF.kc (by decide) rfl) (Nat.le_of_ble_eq_true rfl) rfl (y_X11_lost (I := I1) (d + 19) hF) (fun _ _ g => Or.inl (by rw [g.1])) ?_
  rintro _ _ ⟨rfl, rfl⟩
  show ez_P _ _ _ _ _ _ 32 [(0, .ref 112), (1, .int i)] (.int 0 :: []) (n, sl, kd, z_set I1 112 9 1, L, Rf) _
  refine ez_nmI (fun I3 hI3 => ?_)
  refine ez_i2l dX11_row_32 rfl ?_
  refine ez_lret dX11_row_33 rfl ?_
  have hJ : ∀ c, c ≠ 112 → I3 c = I c := fun c g112 => by rw [hI3, z_set_ne (by omega), hI1, z_set_ne (by omega)]
  have hJf : ∀ k, k ≠ 9 → I3 112 k = I 112 k := fun k g9 => by rw [hI3, z_set_nk (by omega), hI1, z_set_nk (by omega)]
  exact ⟨rfl, _, _, _, rfl, ⟨hM.F, hM.ru, (by rw [(hJf 18 (by decide)), (hJ 119 (by decide))]; exact hM.rv), ⟨(hJf 6 (by decide)).trans hM.tx.1, fun k hk => by rw [(hJ 116 (by decide))]; exact hM.tx.2 k hk⟩, ⟨(hJf 8 (by decide)).trans hM.rw.1, hM.rw.2⟩, (by rw [(hJ 114 (by decide))]; exact hM.pr), ((hJf 4 (by decide)).trans hM.wm), (by rw [(hJ 115 (by decide))]; exact hM.wd), ((hJf 1 (by decide)).trans hM.c), (by rw [(hJ 113 (by decide))]; exact hM.x), (by rw [(hJf 22 (by decide)), (hJ 122 (by decide))]; exact hM.un), (by rw [(hJf 38 (by decide)), (hJ 134 (by decide)), (hJ 135 (by decide)), (hJ 136 (by decide))]; exact hM.kp), (by rw [(hJf 30 (by decide)), (hJ 126 (by decide)), (hJ 127 (by decide)), (hJ 128 (by decide))]; exact hM.sn), (by rw [(hJf 34 (by decide)), (hJ 130 (by decide)), (hJ 131 (by decide))]; exact hM.hd)⟩, (by rw [hI3, z_set_at]), fun c hc => ⟨hJ c (by omega), rfl, rfl⟩⟩
theorem y_X11_thrown {n : Nat} {sl : Nat × Nat} {kd : Nat → Nat × Nat} {I : Nat → Nat → Int32} {L : Nat → Nat → Int64} {Rf : Nat → Nat → Option Nat} (d : Nat) (hF : zF n kd Rf)  : zq mX11_thrown d [.ref 112] (n, sl, kd, I, L, Rf) (eb_r (I 112 9) (n, sl, kd, I, L, Rf)) := by
  intro f B
  refine ez_meth pn_X.2.2.2.2.2.2.2.2.2.2.2 (Nat.le_of_ble_eq_true rfl) ?_
  show ez_P _ _ _ _ _ _ 0 [(0, .ref 112)] [] (n, sl, kd, I, L, Rf) _
  refine ez_aload_n (i := 0) dX11_thrown_0 rfl rfl ?_
  refine ez_getI dX11_thrown_1 flX11_89 (hF.lt (by decide)) (hF.kc (by decide) rfl) ?_
  refine ez_iret dX11_thrown_4 rfl rfl ?_
  exact ⟨rfl, rfl⟩
