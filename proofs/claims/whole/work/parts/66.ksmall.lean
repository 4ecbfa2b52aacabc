/-! the class: sign, end, saw, denies, heard, forget, keep, again, count; brother, price, row where they answer -/
theorem k_four {n : Nat} {sl : Nat × Nat} {kd : Nat → Nat × Nat} {I : Nat → Nat → Int32} {L : Nat → Nat → Int64} {Rf : Nat → Nat → Option Nat} (d : Nat) {T : zT} (hC : zC n kd I L Rf T) (hl : T.tx.length + 4 ≤ 80) (v : Int32) : zq mX9_takeFour d [.ref 1, .int v] (n, sl, kd, I, L, Rf) (fun r τ => r = some (.int 1) ∧ ∃ I1, τ = (n, sl, kd, I1, L, Rf) ∧ zcT I1 (T.tx ++ [z_by v 0, z_by v 1, z_by v 2, z_by v 3]) ∧ ∀ c, c < 1 ∨ 2 < c → I1 c = I c) := by
  intro f B I7 R7 h7
  have e1 : I7 1 = I 1 := h7.cell (c := 1) (by unfold znc; omega)
  have e2 : I7 2 = I 2 := h7.cell (c := 2) (by unfold znc; omega)
  refine (q_X9_takeFour_ok (I := I7) d ((hC.F.tr h7.2.1).txt) (m := T.tx.length) (by rw [e1]; exact hC.tx.1) hl v).to ?_
  rintro _ _ ⟨rfl, I1, rfl, h1, h2, h3, h4⟩
  refine ⟨fun a => if a = 1 ∨ a = 2 then I1 a else I a, Rf, B, rfl, ⟨fun c k hs => ?_, h7.2.1, h7.2.2.cg ?_ ?_ ?_⟩, rfl, _, rfl, ⟨?_, fun k hk => ?_⟩, fun c hc => if_neg (by omega)⟩
  · show I1 c k = (if c = 1 ∨ c = 2 then I1 c else I c) k
    by_cases e : c = 1 ∨ c = 2
    · rw [if_pos e]
    · rw [if_neg e, h4 c (by omega) (by omega)]; exact h7.1 c k hs
  · show I1 5 8 = I7 5 8; rw [h4 5 (by decide) (by decide)]
  · exact h4 19 (by decide) (by decide)
  · exact h4 20 (by decide) (by decide)
  · show I1 1 1 = _; rw [h1, List.length_append]; rfl
  · show I1 2 k = _
    rw [List.length_append] at hk
    simp only [List.getD]
    by_cases e : k < T.tx.length
    · rw [List.getElem?_append_left e, show I1 2 k = I7 2 k from h2 k e, e2, hC.tx.2 k e]; rfl
    · rw [List.getElem?_append_right (by omega)]
      obtain ⟨j, rfl⟩ : ∃ j, k = T.tx.length + j := ⟨k - T.tx.length, by omega⟩
      have hj : j < 4 := by simp at hk; omega
      rw [show I1 2 (T.tx.length + j) = z_by v j from h3 j hj, Nat.add_sub_cancel_left]
      rcases (show j = 0 ∨ j = 1 ∨ j = 2 ∨ j = 3 by omega) with e | e | e | e <;> subst e <;> rfl
theorem k_four_no {n : Nat} {sl : Nat × Nat} {kd : Nat → Nat × Nat} {I : Nat → Nat → Int32} {L : Nat → Nat → Int64} {Rf : Nat → Nat → Option Nat} (d : Nat) {T : zT} (hC : zC n kd I L Rf T) (hl : 80 < T.tx.length + 4) (h9 : T.tx.length ≤ 80) (v : Int32) : zq mX9_takeFour d [.ref 1, .int v] (n, sl, kd, I, L, Rf) (eb_r 0 (n, sl, kd, I, L, Rf)) := by
  intro f B I7 R7 h7
  have e1 : I7 1 = I 1 := h7.cell (c := 1) (by unfold znc; omega)
  refine (q_X9_takeFour_no (I := I7) d ((hC.F.tr h7.2.1).txt) (m := T.tx.length) (by rw [e1]; exact hC.tx.1) hl h9 v).to ?_
  rintro _ _ ⟨rfl, rfl⟩
  exact ⟨_, _, B, rfl, h7, rfl, rfl⟩
theorem c_sign_ok {n : Nat} {sl : Nat × Nat} {kd : Nat → Nat × Nat} {I : Nat → Nat → Int32} {L : Nat → Nat → Int64} {Rf : Nat → Nat → Option Nat} (d : Nat) {T : zT} {H : Nat} (hC : zC n kd I L Rf T) (hO : zOk H T) (hH : H ≤ 1000000000) (v : Int32) (hl : T.tx.length + 4 ≤ 80) : zq mX10_sign (d + 60) [.ref 0, .int v] (n, sl, kd, I, L, Rf) (zpC n sl kd I L Rf (some (.int (s_sign T v).1)) (s_sign T v).2) := by
  have hF := hC.F; have hc7 := hO.c
  have hK0 : zK n kd I L Rf I I L Rf T none none false := zK.start hC
  intro f B
  refine ez_meth pn_X.2.2.2.2.2.2.2.2.2.2.1 (Nat.le_of_ble_eq_true rfl) ?_
  show ez_P _ _ _ _ _ _ 0 [(0, .ref 0), (1, .int v)] [] (n, sl, kd, I, L, Rf) _
  refine ez_aload_n (i := 0) dX10_sign_0 rfl rfl ?_
  refine ez_getR dX10_sign_1 flX10_10 (hF.lt (by decide)) (hF.kc (by decide) rfl) (hF.pt 1 rfl) ?_
  refine ez_iload_n (i := 1) dX10_sign_4 rfl rfl ?_
  refine ez_callV (M1 := mX9_takeFour) (rest := []) dX10_sign_5 mlX10_104 mvX9_takeFour rfl (hF.lt (by decide)) (hF.kc (by decide) rfl) (Nat.le_of_ble_eq_true rfl) rfl (k_four (I := I) (L := L) (d + 59) hC hl v) (fun _ _ h => Or.inl (by obtain ⟨_, I1, h, _⟩ := h; rw [h])) ?_
  rintro _ _ ⟨rfl, I1, rfl, ht, hn1⟩
  show ez_P _ _ _ _ _ _ 8 [(0, .ref 0), (1, .int v)] (.int 1 :: []) (n, sl, kd, I1, L, Rf) _
  have hK1 : zK n kd I L Rf I I1 L Rf (T.w_tx (T.tx ++ [z_by v 0, z_by v 1, z_by v 2, z_by v 3])) none none false := by exact hK0.txt ht hn1
  refine ez_if_eq (tgt := 21) dX10_sign_8 (by decide) (fun c2 => absurd c2 (by decide)) (fun c2 => ?_)
  refine ez_aload_n (i := 0) dX10_sign_11 rfl rfl ?_
  refine ez_getR dX10_sign_12 flX10_10 (hF.lt (by decide)) (hF.kc (by decide) rfl) (hF.pt 1 rfl) ?_
  refine ez_getI dX10_sign_15 flX10_108 (hF.lt (by decide)) (hF.kc (by decide) rfl) ?_
  refine ez_topE (y := nI (T.w_tx (T.tx ++ [z_by v 0, z_by v 1, z_by v 2, z_by v 3])).tx.length) hK1.C.tx.1 ?_
  refine ez_goto (tgt := 22) dX10_sign_18 (by decide) ?_
  refine ez_iret dX10_sign_22 rfl rfl ?_
  rw [show s_sign T v = (nI (T.tx ++ [z_by v 0, z_by v 1, z_by v 2, z_by v 3]).length, T.w_tx (T.tx ++ [z_by v 0, z_by v 1, z_by v 2, z_by v 3])) from by unfold s_sign; rw [if_pos hl, List.length_append]; rfl]
  exact hK1.end
theorem c_sign_no {n : Nat} {sl : Nat × Nat} {kd : Nat → Nat × Nat} {I : Nat → Nat → Int32} {L : Nat → Nat → Int64} {Rf : Nat → Nat → Option Nat} (d : Nat) {T : zT} {H : Nat} (hC : zC n kd I L Rf T) (hO : zOk H T) (hH : H ≤ 1000000000) (v : Int32) (hl : ¬ T.tx.length + 4 ≤ 80) : zq mX10_sign (d + 60) [.ref 0, .int v] (n, sl, kd, I, L, Rf) (zpC n sl kd I L Rf (some (.int (s_sign T v).1)) (s_sign T v).2) := by
  have hF := hC.F; have hc7 := hO.c
  have hK0 : zK n kd I L Rf I I L Rf T none none false := zK.start hC
  have hsp : s_sign T v = (-1, T) := (by unfold s_sign; rw [if_neg hl])
  rw [hsp]
  intro f B
  refine ez_meth pn_X.2.2.2.2.2.2.2.2.2.2.1 (Nat.le_of_ble_eq_true rfl) ?_
  show ez_P _ _ _ _ _ _ 0 [(0, .ref 0), (1, .int v)] [] (n, sl, kd, I, L, Rf) _
  refine ez_aload_n (i := 0) dX10_sign_0 rfl rfl ?_
  refine ez_getR dX10_sign_1 flX10_10 (hF.lt (by decide)) (hF.kc (by decide) rfl) (hF.pt 1 rfl) ?_
  refine ez_iload_n (i := 1) dX10_sign_4 rfl rfl ?_
  refine ez_callV (M1 := mX9_takeFour) (rest := []) dX10_sign_5 mlX10_104 mvX9_takeFour rfl (hF.lt (by decide)) (hF.kc (by decide) rfl) (Nat.le_of_ble_eq_true rfl) rfl (k_four_no (I := I) (L := L) (d + 59) hC (by omega) hO.txl v) eb_rok ?_
  rintro _ _ ⟨rfl, rfl⟩
  show ez_P _ _ _ _ _ _ 8 [(0, .ref 0), (1, .int v)] (.int 0 :: []) _ _
  refine ez_if_eq (tgt := 21) dX10_sign_8 (by decide) (fun c1 => ?_) (fun c1 => absurd (by decide) c1)
  refine ez_iconst (v := (-1)) dX10_sign_21 (by decide) ?_
  refine ez_iret dX10_sign_22 rfl rfl ?_
  exact hK0.end
theorem c_sign {n : Nat} {sl : Nat × Nat} {kd : Nat → Nat × Nat} {I : Nat → Nat → Int32} {L : Nat → Nat → Int64} {Rf : Nat → Nat → Option Nat} (d : Nat) {T : zT} {H : Nat} (hC : zC n kd I L Rf T) (hO : zOk H T) (hH : H ≤ 1000000000) (v : Int32) : zq mX10_sign (d + 60) [.ref 0, .int v] (n, sl, kd, I, L, Rf) (zpC n sl kd I L Rf (some (.int (s_sign T v).1)) (s_sign T v).2) := by
  by_cases hl : T.tx.length + 4 ≤ 80
  · exact c_sign_ok d hC hO hH v hl
  · exact c_sign_no d hC hO hH v hl
theorem eb_rok1 {x : Int32} {n : Nat} {sl : Nat × Nat} {kd : Nat → Nat × Nat} {I : Nat → Nat → Int32} {L : Nat → Nat → Int64} {Rf : Nat → Nat → Option Nat} {l : List (Nat × Value)} {rest : List Value} : ∀ r1 σ1, eb_r x (n, sl, kd, I, L, Rf) r1 σ1 → σ1.1 = n ∨ ((∀ q ∈ l, eb_okv n q.2) ∧ ∀ v ∈ rest, eb_okv n v) := fun _ _ h => Or.inl (by rw [h.1])
theorem zcT_cut {I : Nat → Nat → Int32} {t : List Int32} (h : zcT I t) {k : Nat} (hk : k ≤ t.length) : zcT (z_set I 1 1 (nI k)) (t.take k) := by
  refine ⟨by rw [z_set_at, List.length_take, Nat.min_eq_left hk], fun q hq => ?_⟩
  rw [List.length_take, Nat.min_eq_left hk] at hq
  rw [z_set_ne (by decide), h.2 q (by omega)]
  simp only [List.getD]; rw [List.getElem?_take_of_lt hq]
theorem c_end_ok {n : Nat} {sl : Nat × Nat} {kd : Nat → Nat × Nat} {I : Nat → Nat → Int32} {L : Nat → Nat → Int64} {Rf : Nat → Nat → Option Nat} (d : Nat) {T : zT} {H : Nat} (hC : zC n kd I L Rf T) (hO : zOk H T) (hH : H ≤ 1000000000) {k : Nat} (hk : k ≤ T.tx.length) : zq mX10_end (d + 60) [.ref 0, .int (nI k)] (n, sl, kd, I, L, Rf) (zpC n sl kd I L Rf (some (.int (s_end T (nI k)).1)) (s_end T (nI k)).2) := by
  have hF := hC.F; have hc7 := hO.c
  have hK0 : zK n kd I L Rf I I L Rf T none none false := zK.start hC
  have hsp : s_end T (nI k) = (1, T.w_tx (T.tx.take k)) := (by have h8 := hO.txl; unfold s_end; rw [if_pos (z_n9 hk (by omega)), nI_clamp (by omega)])
  rw [hsp]
  intro f B
  refine ez_meth pn_X.2.2.2.2.2.2.2.2.2.2.1 (Nat.le_of_ble_eq_true rfl) ?_
  show ez_P _ _ _ _ _ _ 0 [(0, .ref 0), (1, .int (nI k))] [] (n, sl, kd, I, L, Rf) _
  refine ez_aload_n (i := 0) dX10_end_0 rfl rfl ?_
  refine ez_getR dX10_end_1 flX10_10 (hF.lt (by decide)) (hF.kc (by decide) rfl) (hF.pt 1 rfl) ?_
  refine ez_iload_n (i := 1) dX10_end_4 rfl rfl ?_
  refine ez_callV (M1 := mX9_cut) (rest := []) dX10_end_5 mlX10_112 mvX9_cut rfl (hF.lt (by decide)) (hF.kc (by decide) rfl) (Nat.le_of_ble_eq_true rfl) rfl (y_X9_cut_ok (I := I) (L := L) (d + 59) hF.txt rfl (x := nI k) (by rw [hC.tx.1]; exact z_n9 hk (by have := hO.txl; omega))) eb_rok1 ?_
  rintro _ _ ⟨rfl, rfl⟩
  refine ez_nmI (fun I1 hI1 => ?_)
  show ez_P _ _ _ _ _ _ 8 [(0, .ref 0), (1, .int (nI k))] (.int 1 :: []) (n, sl, kd, I1, L, Rf) _
  have hK2 : zK n kd I L Rf I I1 L Rf (T.w_tx (T.tx.take k)) none none false := by rw [hI1]; exact hK0.txt (I1 := z_set I 1 1 (nI k)) (zcT_cut hC.tx (by omega)) (fun c hc => z_set_ne (by omega))
  refine ez_iret dX10_end_8 rfl (by decide) ?_
  exact hK2.end
theorem c_end_no {n : Nat} {sl : Nat × Nat} {kd : Nat → Nat × Nat} {I : Nat → Nat → Int32} {L : Nat → Nat → Int64} {Rf : Nat → Nat → Option Nat} (d : Nat) {T : zT} {H : Nat} (hC : zC n kd I L Rf T) (hO : zOk H T) (hH : H ≤ 1000000000) {v : Int32} (hn : ¬ (0 ≤ v ∧ v ≤ nI T.tx.length)) : zq mX10_end (d + 60) [.ref 0, .int v] (n, sl, kd, I, L, Rf) (zpC n sl kd I L Rf (some (.int (s_end T v).1)) (s_end T v).2) := by
  have hF := hC.F; have hc7 := hO.c
  have hK0 : zK n kd I L Rf I I L Rf T none none false := zK.start hC
  have hsp : s_end T v = (0, T) := (by unfold s_end; rw [if_neg hn])
  rw [hsp]
  intro f B
  refine ez_meth pn_X.2.2.2.2.2.2.2.2.2.2.1 (Nat.le_of_ble_eq_true rfl) ?_
  show ez_P _ _ _ _ _ _ 0 [(0, .ref 0), (1, .int v)] [] (n, sl, kd, I, L, Rf) _
  refine ez_aload_n (i := 0) dX10_end_0 rfl rfl ?_
  refine ez_getR dX10_end_1 flX10_10 (hF.lt (by decide)) (hF.kc (by decide) rfl) (hF.pt 1 rfl) ?_
  refine ez_iload_n (i := 1) dX10_end_4 rfl rfl ?_
  refine ez_callV (M1 := mX9_cut) (rest := []) dX10_end_5 mlX10_112 mvX9_cut rfl (hF.lt (by decide)) (hF.kc (by decide) rfl) (Nat.le_of_ble_eq_true rfl) rfl (y_X9_cut_no (I := I) (L := L) (d + 59) hF.txt rfl (x := v) (by rw [hC.tx.1]; exact hn)) eb_rok ?_
  rintro _ _ ⟨rfl, rfl⟩
  show ez_P _ _ _ _ _ _ 8 [(0, .ref 0), (1, .int v)] (.int 0 :: []) _ _
  refine ez_iret dX10_end_8 rfl (by decide) ?_
  exact hK0.end
theorem c_end {n : Nat} {sl : Nat × Nat} {kd : Nat → Nat × Nat} {I : Nat → Nat → Int32} {L : Nat → Nat → Int64} {Rf : Nat → Nat → Option Nat} (d : Nat) {T : zT} {H : Nat} (hC : zC n kd I L Rf T) (hO : zOk H T) (hH : H ≤ 1000000000) (v : Int32) : zq mX10_end (d + 60) [.ref 0, .int v] (n, sl, kd, I, L, Rf) (zpC n sl kd I L Rf (some (.int (s_end T v).1)) (s_end T v).2) := by
  by_cases hl : 0 ≤ v ∧ v ≤ nI T.tx.length
  · obtain ⟨k, _, hk, rfl⟩ := z_pk1 (lo := 0) (N := T.tx.length) (by rw [nI_0]; exact hl) (by have := hO.txl; omega) (by omega)
    exact c_end_ok d hC hO hH hk
  · exact c_end_no d hC hO hH hl
theorem c_denies {n : Nat} {sl : Nat × Nat} {kd : Nat → Nat × Nat} {I : Nat → Nat → Int32} {L : Nat → Nat → Int64} {Rf : Nat → Nat → Option Nat} (d : Nat) {T : zT} {H : Nat} (hC : zC n kd I L Rf T) (hO : zOk H T) (hH : H ≤ 1000000000) : zq mX10_denies (d + 60) [.ref 0] (n, sl, kd, I, L, Rf) (zpC n sl kd I L Rf (some (.int (s_denies T).1)) (s_denies T).2) := by
  have hF := hC.F; have hc7 := hO.c
  have hK0 : zK n kd I L Rf I I L Rf T none none false := zK.start hC
  have hsp : s_denies T = (nI T.sn.length, T.w_sn []) := rfl
  rw [hsp]
  intro f B
  refine ez_meth pn_X.2.2.2.2.2.2.2.2.2.2.1 (Nat.le_of_ble_eq_true rfl) ?_
  show ez_P _ _ _ _ _ _ 0 [(0, .ref 0)] [] (n, sl, kd, I, L, Rf) _
  refine ez_aload_n (i := 0) dX10_denies_0 rfl rfl ?_
  refine ez_getR dX10_denies_1 flX10_63 (hF.lt (by decide)) (hF.kc (by decide) rfl) (hF.pt 90 rfl) ?_
  refine ez_callV (M1 := mX8_empty) (rest := []) dX10_denies_4 mlX10_352 mvX8_empty rfl (hF.lt (by decide)) (hF.kc (by decide) rfl) (Nat.le_of_ble_eq_true rfl) rfl (y_X8_empty (I := I) (L := L) (d + 59) hF.tal (by decide) (by decide)) eb_rok1 ?_
  rintro _ _ ⟨rfl, rfl⟩
  refine ez_nmI (fun I1 hI1 => ?_)
  show ez_P _ _ _ _ _ _ 7 [(0, .ref 0)] (.int (I 93 3) :: []) (n, sl, kd, I1, L, Rf) _
  refine ez_topE (y := nI T.sn.length) hC.sn.1 ?_
  have hK2 : zK n kd I L Rf I I1 L Rf (T.w_sn []) none none false := by rw [hI1]; exact hK0.snn (I1 := z_set I 93 3 0) ⟨by rw [z_set_at]; rfl, fun k q h => by simp at h⟩ (fun c hc => z_set_ne (by omega))
  refine ez_iret dX10_denies_7 rfl rfl ?_
  exact hK2.end
theorem c_forget {n : Nat} {sl : Nat × Nat} {kd : Nat → Nat × Nat} {I : Nat → Nat → Int32} {L : Nat → Nat → Int64} {Rf : Nat → Nat → Option Nat} (d : Nat) {T : zT} {H : Nat} (hC : zC n kd I L Rf T) (hO : zOk H T) (hH : H ≤ 1000000000) : zq mX10_forget (d + 60) [.ref 0] (n, sl, kd, I, L, Rf) (zpC n sl kd I L Rf (some (.int (s_forget T).1)) (s_forget T).2) := by
  have hF := hC.F; have hc7 := hO.c
  have hK0 : zK n kd I L Rf I I L Rf T none none false := zK.start hC
  have hsp : s_forget T = (nI T.hd.length, T.w_hd []) := rfl
  rw [hsp]
  intro f B
  refine ez_meth pn_X.2.2.2.2.2.2.2.2.2.2.1 (Nat.le_of_ble_eq_true rfl) ?_
  show ez_P _ _ _ _ _ _ 0 [(0, .ref 0)] [] (n, sl, kd, I, L, Rf) _
  refine ez_aload_n (i := 0) dX10_forget_0 rfl rfl ?_
  refine ez_getR dX10_forget_1 flX10_67 (hF.lt (by decide)) (hF.kc (by decide) rfl) (hF.pt 94 rfl) ?_
  refine ez_callV (M1 := mX8_empty) (rest := []) dX10_forget_4 mlX10_352 mvX8_empty rfl (hF.lt (by decide)) (hF.kc (by decide) rfl) (Nat.le_of_ble_eq_true rfl) rfl (y_X8_empty (I := I) (L := L) (d + 59) hF.rum (by decide) (by decide)) eb_rok1 ?_
  rintro _ _ ⟨rfl, rfl⟩
  refine ez_nmI (fun I1 hI1 => ?_)
  show ez_P _ _ _ _ _ _ 7 [(0, .ref 0)] (.int (I 97 3) :: []) (n, sl, kd, I1, L, Rf) _
  refine ez_topE (y := nI T.hd.length) hC.hd.1 ?_
  have hK2 : zK n kd I L Rf I I1 L Rf (T.w_hd []) none none false := by rw [hI1]; exact hK0.hdd (I1 := z_set I 97 3 0) ⟨by rw [z_set_at]; rfl, fun k q h => by simp at h⟩ (fun c hc => z_set_ne (by omega))
  refine ez_iret dX10_forget_7 rfl rfl ?_
  exact hK2.end
theorem z_tadd_ne {I : Nat → Nat → Int32} {i k a : Nat} {x y z : Int32} (h0 : a ≠ i) (h1 : a ≠ i + 1) (h2 : a ≠ i + 2) (h3 : a ≠ i + 3) : z_tadd I i k x y z a = I a := by
  unfold z_tadd; rw [z_set_ne h0, z_set_ne h3, z_set_ne h2, z_set_ne h1]
theorem z_tadd_n {I : Nat → Nat → Int32} {i k : Nat} {x y z : Int32} : z_tadd I i k x y z i 3 = nI (k + 1) := by unfold z_tadd; rw [z_set_at]
theorem z_tadd_1 {I : Nat → Nat → Int32} {i k q : Nat} {x y z : Int32} : z_tadd I i k x y z (i + 1) q = if q = k then x else I (i + 1) q := by
  unfold z_tadd; rw [z_set_ne (by omega), z_set_ne (by omega), z_set_ne (by omega)]; simp only [z_set]; simp
theorem z_tadd_2 {I : Nat → Nat → Int32} {i k q : Nat} {x y z : Int32} : z_tadd I i k x y z (i + 2) q = if q = k then y else I (i + 2) q := by
  unfold z_tadd; rw [z_set_ne (by omega), z_set_ne (by omega)]; simp only [z_set]; simp
theorem z_tadd_3 {I : Nat → Nat → Int32} {i k q : Nat} {x y z : Int32} : z_tadd I i k x y z (i + 3) q = if q = k then z else I (i + 3) q := by
  unfold z_tadd; rw [z_set_ne (by omega)]; simp only [z_set]; simp
theorem z_snoc2 {α : Type} {l : List α} {k : Nat} {x q : α} (h : (l ++ [x])[k]? = some q) : (k = l.length ∧ q = x) ∨ (k ≠ l.length ∧ l[k]? = some q) := by
  by_cases e : k < l.length
  · rw [List.getElem?_append_left e] at h; exact Or.inr ⟨by omega, h⟩
  · rw [List.getElem?_append_right (by omega)] at h
    by_cases e3 : k - l.length = 0
    · rw [e3] at h; cases h; exact Or.inl ⟨by omega, rfl⟩
    · rw [List.getElem?_eq_none (by simp; omega)] at h; cases h
theorem zcN.add {I : Nat → Nat → Int32} {sn : List (Int32 × Int32 × Int32)} (h : zcN I sn) (x y z : Int32) : zcN (z_tadd I 93 sn.length x y z) (sn ++ [(x, y, z)]) := by
  refine ⟨by rw [z_tadd_n, List.length_append]; rfl, fun k q hq => ?_⟩
  rw [show (94 : Nat) = 93 + 1 from rfl, show (95 : Nat) = 93 + 2 from rfl, show (96 : Nat) = 93 + 3 from rfl, z_tadd_1, z_tadd_2, z_tadd_3]
  rcases z_snoc2 hq with ⟨e, rfl⟩ | ⟨e, hq⟩
  · rw [if_pos e, if_pos e, if_pos e]; exact ⟨rfl, rfl, rfl⟩
  · rw [if_neg e, if_neg e, if_neg e]; exact h.2 k q hq
theorem zcH.add {I : Nat → Nat → Int32} {hd : List (Int32 × Int32)} (h : zcH I hd) (x y z : Int32) : zcH (z_tadd I 97 hd.length x y z) (hd ++ [(x, y)]) := by
  refine ⟨by rw [z_tadd_n, List.length_append]; rfl, fun k q hq => ?_⟩
  rw [show (98 : Nat) = 97 + 1 from rfl, show (99 : Nat) = 97 + 2 from rfl, z_tadd_1, z_tadd_2]
  rcases z_snoc2 hq with ⟨e, rfl⟩ | ⟨e, hq⟩
  · rw [if_pos e, if_pos e]; exact ⟨rfl, rfl⟩
  · rw [if_neg e, if_neg e]; exact h.2 k q hq
theorem zK.hdd2 {n : Nat} {kd : Nat → Nat × Nat} {I0 g I I1 : Nat → Nat → Int32} {L0 L : Nat → Nat → Int64} {R0 Rf : Nat → Nat → Option Nat} {T : zT} {G Bf : Option (Nat → Int32)} {w : Bool} {hd : List (Int32 × Int32)} (h : zK n kd I0 L0 R0 g I L Rf T G Bf w) (hs : zcH I1 hd) (hI : ∀ c, c < 97 ∨ 100 < c → I1 c = I c) : zK n kd I0 L0 R0 g I1 L Rf (T.w_hd hd) G Bf w := by
  have h1 := h.hdd (I1 := fun c => if c = 100 then I c else I1 c) (hd := hd) (hs.cg (I1 := fun c => if c = 100 then I c else I1 c) (fun c h1 h2 => if_neg (by omega))) (fun c hc => by show (if c = 100 then I c else I1 c) = I c; by_cases e : c = 100; rw [if_pos e]; rw [if_neg e]; exact hI c (by omega))
  have hI : ∀ c, c ≠ 100 → I1 c = (fun c => if c = 100 then I c else I1 c) c := fun c hc => (if_neg hc).symm
  exact ⟨h1.C.fr h1.C.F rfl (fun c hc => hI c (by omega)) rfl (fun _ _ => rfl), fun x e => (h1.gs x e).cg (hI _ (by omega)) (hI _ (by omega)) (hI _ (by omega)) (hI _ (by omega)), fun x e => (h1.bf x e).cg (hI _ (by omega)) (hI _ (by omega)) (hI _ (by omega)) (hI _ (by omega)), fun e b hb => by rw [hI 108 (by omega)]; exact h1.lo e b hb, fun c hc => by rw [hI c (by omega)]; exact h1.f c hc, fun c hc => by rw [hI c (by unfold zgk at hc; omega)]; exact h1.g c hc⟩
theorem c_saw_ok {n : Nat} {sl : Nat × Nat} {kd : Nat → Nat × Nat} {I : Nat → Nat → Int32} {L : Nat → Nat → Int64} {Rf : Nat → Nat → Option Nat} (d : Nat) {T : zT} {H : Nat} (hC : zC n kd I L Rf T) (hO : zOk H T) (hH : H ≤ 1000000000) {w s v : Int32} (hw : -9 ≤ w ∧ w ≤ 9) (hs : 0 ≤ s ∧ s ≤ 9) (hv : -20 ≤ v ∧ v ≤ 20) (hl : T.sn.length < 10) : zq mX10_saw (d + 60) [.ref 0, .int w, .int s, .int v] (n, sl, kd, I, L, Rf) (zpC n sl kd I L Rf (some (.int (s_saw T w s v).1)) (s_saw T w s v).2) := by
  have hF := hC.F; have hc7 := hO.c
  have hK0 : zK n kd I L Rf I I L Rf T none none false := zK.start hC
  intro f B
  refine ez_meth pn_X.2.2.2.2.2.2.2.2.2.2.1 (Nat.le_of_ble_eq_true rfl) ?_
  show ez_P _ _ _ _ _ _ 0 [(0, .ref 0), (1, .int w), (2, .int s), (3, .int v)] [] (n, sl, kd, I, L, Rf) _
  refine ez_iload_n (i := 1) dX10_saw_0 rfl rfl ?_
  refine ez_bipush (v := (-9)) dX10_saw_1 (by decide) ?_
  refine ez_bipush (v := 9) dX10_saw_3 (by decide) ?_
  refine ez_callS (M1 := mX10_within) (rest := []) dX10_saw_5 mlX10_158 msX10_within rfl (Nat.le_of_ble_eq_true rfl) rfl (zq_b1 hw (zq_b (q_X10_within (d + 59) w (-9) 9) (n, sl, kd, I, L, Rf))) eb_rok ?_
  rintro _ _ ⟨rfl, rfl⟩
  show ez_P _ _ _ _ _ _ 8 [(0, .ref 0), (1, .int w), (2, .int s), (3, .int v)] (.int 1 :: []) _ _
  refine ez_if_eq (tgt := 32) dX10_saw_8 (by decide) (fun c1 => absurd c1 (by decide)) (fun c1 => ?_)
  refine ez_iload_n (i := 2) dX10_saw_11 rfl rfl ?_
  refine ez_iconst (v := 0) dX10_saw_12 (by decide) ?_
  refine ez_bipush (v := 9) dX10_saw_13 (by decide) ?_
  refine ez_callS (M1 := mX10_within) (rest := []) dX10_saw_15 mlX10_158 msX10_within rfl (Nat.le_of_ble_eq_true rfl) rfl (zq_b1 hs (zq_b (q_X10_within (d + 59) s 0 9) (n, sl, kd, I, L, Rf))) eb_rok ?_
  rintro _ _ ⟨rfl, rfl⟩
  show ez_P _ _ _ _ _ _ 18 [(0, .ref 0), (1, .int w), (2, .int s), (3, .int v)] (.int 1 :: []) _ _
  refine ez_if_eq (tgt := 32) dX10_saw_18 (by decide) (fun c2 => absurd c2 (by decide)) (fun c2 => ?_)
  refine ez_iload_n (i := 3) dX10_saw_21 rfl rfl ?_
  refine ez_bipush (v := (-20)) dX10_saw_22 (by decide) ?_
  refine ez_bipush (v := 20) dX10_saw_24 (by decide) ?_
  refine ez_callS (M1 := mX10_within) (rest := []) dX10_saw_26 mlX10_158 msX10_within rfl (Nat.le_of_ble_eq_true rfl) rfl (zq_b1 hv (zq_b (q_X10_within (d + 59) v (-20) 20) (n, sl, kd, I, L, Rf))) eb_rok ?_
  rintro _ _ ⟨rfl, rfl⟩
  show ez_P _ _ _ _ _ _ 29 [(0, .ref 0), (1, .int w), (2, .int s), (3, .int v)] (.int 1 :: []) _ _
  refine ez_if_ne (tgt := 34) dX10_saw_29 (by decide) (fun c3 => ?_) (fun c3 => absurd (by decide) c3)
  refine ez_aload_n (i := 0) dX10_saw_34 rfl rfl ?_
  refine ez_getR dX10_saw_35 flX10_63 (hF.lt (by decide)) (hF.kc (by decide) rfl) (hF.pt 90 rfl) ?_
  refine ez_iload_n (i := 1) dX10_saw_38 rfl rfl ?_
  refine ez_iload_n (i := 2) dX10_saw_39 rfl rfl ?_
  refine ez_iload_n (i := 3) dX10_saw_40 rfl rfl ?_
  refine ez_callV (M1 := mX8_add) (rest := []) dX10_saw_41 mlX10_349 mvX8_add rfl (hF.lt (by decide)) (hF.kc (by decide) rfl) (Nat.le_of_ble_eq_true rfl) rfl (y_X8_add_ok (I := I) (L := L) (d + 59) hF.tal (by decide) (by decide) hC.sn.1 hl w s v) eb_rok1 ?_
  rintro _ _ ⟨rfl, rfl⟩
  refine ez_nmI (fun I4 hI4 => ?_)
  show ez_P _ _ _ _ _ _ 44 [(0, .ref 0), (1, .int w), (2, .int s), (3, .int v)] (.int 1 :: []) (n, sl, kd, I4, L, Rf) _
  have hK5 : zK n kd I L Rf I I4 L Rf (T.w_sn (T.sn ++ [(w, s, v)])) none none false := by rw [hI4]; exact hK0.snn (I1 := z_tadd I 93 T.sn.length w s v) (hC.sn.add w s v) (fun c hc => z_tadd_ne (by omega) (by omega) (by omega) (by omega))
  refine ez_if_eq (tgt := 57) dX10_saw_44 (by decide) (fun c6 => absurd c6 (by decide)) (fun c6 => ?_)
  refine ez_aload_n (i := 0) dX10_saw_47 rfl rfl ?_
  refine ez_getR dX10_saw_48 flX10_63 (hF.lt (by decide)) (hF.kc (by decide) rfl) (hF.pt 90 rfl) ?_
  refine ez_getI dX10_saw_51 flX10_351 (hF.lt (by decide)) (hF.kc (by decide) rfl) ?_
  refine ez_topE (y := nI (T.w_sn (T.sn ++ [(w, s, v)])).sn.length) hK5.C.sn.1 ?_
  refine ez_goto (tgt := 58) dX10_saw_54 (by decide) ?_
  refine ez_iret dX10_saw_58 rfl rfl ?_
  rw [show s_saw T w s v = (nI (T.sn ++ [(w, s, v)]).length, T.w_sn (T.sn ++ [(w, s, v)])) from by unfold s_saw; rw [if_pos ⟨⟨hw, hs, hv⟩, hl⟩, List.length_append]; rfl]
  exact hK5.end
theorem c_saw_full {n : Nat} {sl : Nat × Nat} {kd : Nat → Nat × Nat} {I : Nat → Nat → Int32} {L : Nat → Nat → Int64} {Rf : Nat → Nat → Option Nat} (d : Nat) {T : zT} {H : Nat} (hC : zC n kd I L Rf T) (hO : zOk H T) (hH : H ≤ 1000000000) {w s v : Int32} (hw : -9 ≤ w ∧ w ≤ 9) (hs : 0 ≤ s ∧ s ≤ 9) (hv : -20 ≤ v ∧ v ≤ 20) (hl : T.sn.length = 10) : zq mX10_saw (d + 60) [.ref 0, .int w, .int s, .int v] (n, sl, kd, I, L, Rf) (zpC n sl kd I L Rf (some (.int (s_saw T w s v).1)) (s_saw T w s v).2) := by
  have hF := hC.F; have hc7 := hO.c
  have hK0 : zK n kd I L Rf I I L Rf T none none false := zK.start hC
  have hsp : s_saw T w s v = (-1, T) := (by unfold s_saw; rw [if_neg (fun g => absurd g.2 (by omega))])
  rw [hsp]
  intro f B
  refine ez_meth pn_X.2.2.2.2.2.2.2.2.2.2.1 (Nat.le_of_ble_eq_true rfl) ?_
  show ez_P _ _ _ _ _ _ 0 [(0, .ref 0), (1, .int w), (2, .int s), (3, .int v)] [] (n, sl, kd, I, L, Rf) _
  refine ez_iload_n (i := 1) dX10_saw_0 rfl rfl ?_
  refine ez_bipush (v := (-9)) dX10_saw_1 (by decide) ?_
  refine ez_bipush (v := 9) dX10_saw_3 (by decide) ?_
  refine ez_callS (M1 := mX10_within) (rest := []) dX10_saw_5 mlX10_158 msX10_within rfl (Nat.le_of_ble_eq_true rfl) rfl (zq_b1 hw (zq_b (q_X10_within (d + 59) w (-9) 9) (n, sl, kd, I, L, Rf))) eb_rok ?_
  rintro _ _ ⟨rfl, rfl⟩
  show ez_P _ _ _ _ _ _ 8 [(0, .ref 0), (1, .int w), (2, .int s), (3, .int v)] (.int 1 :: []) _ _
  refine ez_if_eq (tgt := 32) dX10_saw_8 (by decide) (fun c1 => absurd c1 (by decide)) (fun c1 => ?_)
  refine ez_iload_n (i := 2) dX10_saw_11 rfl rfl ?_
  refine ez_iconst (v := 0) dX10_saw_12 (by decide) ?_
  refine ez_bipush (v := 9) dX10_saw_13 (by decide) ?_
  refine ez_callS (M1 := mX10_within) (rest := []) dX10_saw_15 mlX10_158 msX10_within rfl (Nat.le_of_ble_eq_true rfl) rfl (zq_b1 hs (zq_b (q_X10_within (d + 59) s 0 9) (n, sl, kd, I, L, Rf))) eb_rok ?_
  rintro _ _ ⟨rfl, rfl⟩
  show ez_P _ _ _ _ _ _ 18 [(0, .ref 0), (1, .int w), (2, .int s), (3, .int v)] (.int 1 :: []) _ _
  refine ez_if_eq (tgt := 32) dX10_saw_18 (by decide) (fun c2 => absurd c2 (by decide)) (fun c2 => ?_)
  refine ez_iload_n (i := 3) dX10_saw_21 rfl rfl ?_
  refine ez_bipush (v := (-20)) dX10_saw_22 (by decide) ?_
  refine ez_bipush (v := 20) dX10_saw_24 (by decide) ?_
  refine ez_callS (M1 := mX10_within) (rest := []) dX10_saw_26 mlX10_158 msX10_within rfl (Nat.le_of_ble_eq_true rfl) rfl (zq_b1 hv (zq_b (q_X10_within (d + 59) v (-20) 20) (n, sl, kd, I, L, Rf))) eb_rok ?_
  rintro _ _ ⟨rfl, rfl⟩
  show ez_P _ _ _ _ _ _ 29 [(0, .ref 0), (1, .int w), (2, .int s), (3, .int v)] (.int 1 :: []) _ _
  refine ez_if_ne (tgt := 34) dX10_saw_29 (by decide) (fun c3 => ?_) (fun c3 => absurd (by decide) c3)
  refine ez_aload_n (i := 0) dX10_saw_34 rfl rfl ?_
  refine ez_getR dX10_saw_35 flX10_63 (hF.lt (by decide)) (hF.kc (by decide) rfl) (hF.pt 90 rfl) ?_
  refine ez_iload_n (i := 1) dX10_saw_38 rfl rfl ?_
  refine ez_iload_n (i := 2) dX10_saw_39 rfl rfl ?_
  refine ez_iload_n (i := 3) dX10_saw_40 rfl rfl ?_
  refine ez_callV (M1 := mX8_add) (rest := []) dX10_saw_41 mlX10_349 mvX8_add rfl (hF.lt (by decide)) (hF.kc (by decide) rfl) (Nat.le_of_ble_eq_true rfl) rfl (y_X8_add_no (I := I) (L := L) (d + 59) hF.tal (by decide) (by decide) (by rw [hC.sn.1, hl]) w s v) eb_rok ?_
  rintro _ _ ⟨rfl, rfl⟩
  show ez_P _ _ _ _ _ _ 44 [(0, .ref 0), (1, .int w), (2, .int s), (3, .int v)] (.int 0 :: []) _ _
  refine ez_if_eq (tgt := 57) dX10_saw_44 (by decide) (fun c4 => ?_) (fun c4 => absurd (by decide) c4)
  refine ez_iconst (v := (-1)) dX10_saw_57 (by decide) ?_
  refine ez_iret dX10_saw_58 rfl rfl ?_
  exact hK0.end
theorem c_saw_n1 {n : Nat} {sl : Nat × Nat} {kd : Nat → Nat × Nat} {I : Nat → Nat → Int32} {L : Nat → Nat → Int64} {Rf : Nat → Nat → Option Nat} (d : Nat) {T : zT} {H : Nat} (hC : zC n kd I L Rf T) (hO : zOk H T) (hH : H ≤ 1000000000) {w s v : Int32} (hw : ¬ (-9 ≤ w ∧ w ≤ 9)) : zq mX10_saw (d + 60) [.ref 0, .int w, .int s, .int v] (n, sl, kd, I, L, Rf) (zpC n sl kd I L Rf (some (.int (s_saw T w s v).1)) (s_saw T w s v).2) := by
  have hF := hC.F; have hc7 := hO.c
  have hK0 : zK n kd I L Rf I I L Rf T none none false := zK.start hC
  have hsp : s_saw T w s v = ((-1), T) := (by unfold s_saw; rw [if_neg (fun g => hw g.1.1)])
  rw [hsp]
  intro f B
  refine ez_meth pn_X.2.2.2.2.2.2.2.2.2.2.1 (Nat.le_of_ble_eq_true rfl) ?_
  show ez_P _ _ _ _ _ _ 0 [(0, .ref 0), (1, .int w), (2, .int s), (3, .int v)] [] (n, sl, kd, I, L, Rf) _
  refine ez_iload_n (i := 1) dX10_saw_0 rfl rfl ?_
  refine ez_bipush (v := (-9)) dX10_saw_1 (by decide) ?_
  refine ez_bipush (v := 9) dX10_saw_3 (by decide) ?_
  refine ez_callS (M1 := mX10_within) (rest := []) dX10_saw_5 mlX10_158 msX10_within rfl (Nat.le_of_ble_eq_true rfl) rfl (zq_b0 hw (zq_b (q_X10_within (d + 59) w (-9) 9) (n, sl, kd, I, L, Rf))) eb_rok ?_
  rintro _ _ ⟨rfl, rfl⟩
  show ez_P _ _ _ _ _ _ 8 [(0, .ref 0), (1, .int w), (2, .int s), (3, .int v)] (.int 0 :: []) _ _
  refine ez_if_eq (tgt := 32) dX10_saw_8 (by decide) (fun c1 => ?_) (fun c1 => absurd (by decide) c1)
  refine ez_iconst (v := (-1)) dX10_saw_32 (by decide) ?_
  refine ez_iret dX10_saw_33 rfl rfl ?_
  exact hK0.end
theorem c_saw_n2 {n : Nat} {sl : Nat × Nat} {kd : Nat → Nat × Nat} {I : Nat → Nat → Int32} {L : Nat → Nat → Int64} {Rf : Nat → Nat → Option Nat} (d : Nat) {T : zT} {H : Nat} (hC : zC n kd I L Rf T) (hO : zOk H T) (hH : H ≤ 1000000000) {w s v : Int32} (hw : -9 ≤ w ∧ w ≤ 9) (hs : ¬ (0 ≤ s ∧ s ≤ 9)) : zq mX10_saw (d + 60) [.ref 0, .int w, .int s, .int v] (n, sl, kd, I, L, Rf) (zpC n sl kd I L Rf (some (.int (s_saw T w s v).1)) (s_saw T w s v).2) := by
  have hF := hC.F; have hc7 := hO.c
  have hK0 : zK n kd I L Rf I I L Rf T none none false := zK.start hC
  have hsp : s_saw T w s v = ((-1), T) := (by unfold s_saw; rw [if_neg (fun g => hs g.1.2.1)])
  rw [hsp]
  intro f B
  refine ez_meth pn_X.2.2.2.2.2.2.2.2.2.2.1 (Nat.le_of_ble_eq_true rfl) ?_
  show ez_P _ _ _ _ _ _ 0 [(0, .ref 0), (1, .int w), (2, .int s), (3, .int v)] [] (n, sl, kd, I, L, Rf) _
  refine ez_iload_n (i := 1) dX10_saw_0 rfl rfl ?_
  refine ez_bipush (v := (-9)) dX10_saw_1 (by decide) ?_
  refine ez_bipush (v := 9) dX10_saw_3 (by decide) ?_
  refine ez_callS (M1 := mX10_within) (rest := []) dX10_saw_5 mlX10_158 msX10_within rfl (Nat.le_of_ble_eq_true rfl) rfl (zq_b1 hw (zq_b (q_X10_within (d + 59) w (-9) 9) (n, sl, kd, I, L, Rf))) eb_rok ?_
  rintro _ _ ⟨rfl, rfl⟩
  show ez_P _ _ _ _ _ _ 8 [(0, .ref 0), (1, .int w), (2, .int s), (3, .int v)] (.int 1 :: []) _ _
  refine ez_if_eq (tgt := 32) dX10_saw_8 (by decide) (fun c1 => absurd c1 (by decide)) (fun c1 => ?_)
  refine ez_iload_n (i := 2) dX10_saw_11 rfl rfl ?_
  refine ez_iconst (v := 0) dX10_saw_12 (by decide) ?_
  refine ez_bipush (v := 9) dX10_saw_13 (by decide) ?_
  refine ez_callS (M1 := mX10_within) (rest := []) dX10_saw_15 mlX10_158 msX10_within rfl (Nat.le_of_ble_eq_true rfl) rfl (zq_b0 hs (zq_b (q_X10_within (d + 59) s 0 9) (n, sl, kd, I, L, Rf))) eb_rok ?_
  rintro _ _ ⟨rfl, rfl⟩
  show ez_P _ _ _ _ _ _ 18 [(0, .ref 0), (1, .int w), (2, .int s), (3, .int v)] (.int 0 :: []) _ _
  refine ez_if_eq (tgt := 32) dX10_saw_18 (by decide) (fun c2 => ?_) (fun c2 => absurd (by decide) c2)
  refine ez_iconst (v := (-1)) dX10_saw_32 (by decide) ?_
  refine ez_iret dX10_saw_33 rfl rfl ?_
  exact hK0.end
theorem c_saw_n3 {n : Nat} {sl : Nat × Nat} {kd : Nat → Nat × Nat} {I : Nat → Nat → Int32} {L : Nat → Nat → Int64} {Rf : Nat → Nat → Option Nat} (d : Nat) {T : zT} {H : Nat} (hC : zC n kd I L Rf T) (hO : zOk H T) (hH : H ≤ 1000000000) {w s v : Int32} (hw : -9 ≤ w ∧ w ≤ 9) (hs : 0 ≤ s ∧ s ≤ 9) (hv : ¬ (-20 ≤ v ∧ v ≤ 20)) : zq mX10_saw (d + 60) [.ref 0, .int w, .int s, .int v] (n, sl, kd, I, L, Rf) (zpC n sl kd I L Rf (some (.int (s_saw T w s v).1)) (s_saw T w s v).2) := by
  have hF := hC.F; have hc7 := hO.c
  have hK0 : zK n kd I L Rf I I L Rf T none none false := zK.start hC
  have hsp : s_saw T w s v = ((-1), T) := (by unfold s_saw; rw [if_neg (fun g => hv g.1.2.2)])
  rw [hsp]
  intro f B
  refine ez_meth pn_X.2.2.2.2.2.2.2.2.2.2.1 (Nat.le_of_ble_eq_true rfl) ?_
  show ez_P _ _ _ _ _ _ 0 [(0, .ref 0), (1, .int w), (2, .int s), (3, .int v)] [] (n, sl, kd, I, L, Rf) _
  refine ez_iload_n (i := 1) dX10_saw_0 rfl rfl ?_
  refine ez_bipush (v := (-9)) dX10_saw_1 (by decide) ?_
  refine ez_bipush (v := 9) dX10_saw_3 (by decide) ?_
  refine ez_callS (M1 := mX10_within) (rest := []) dX10_saw_5 mlX10_158 msX10_within rfl (Nat.le_of_ble_eq_true rfl) rfl (zq_b1 hw (zq_b (q_X10_within (d + 59) w (-9) 9) (n, sl, kd, I, L, Rf))) eb_rok ?_
  rintro _ _ ⟨rfl, rfl⟩
  show ez_P _ _ _ _ _ _ 8 [(0, .ref 0), (1, .int w), (2, .int s), (3, .int v)] (.int 1 :: []) _ _
  refine ez_if_eq (tgt := 32) dX10_saw_8 (by decide) (fun c1 => absurd c1 (by decide)) (fun c1 => ?_)
  refine ez_iload_n (i := 2) dX10_saw_11 rfl rfl ?_
  refine ez_iconst (v := 0) dX10_saw_12 (by decide) ?_
  refine ez_bipush (v := 9) dX10_saw_13 (by decide) ?_
  refine ez_callS (M1 := mX10_within) (rest := []) dX10_saw_15 mlX10_158 msX10_within rfl (Nat.le_of_ble_eq_true rfl) rfl (zq_b1 hs (zq_b (q_X10_within (d + 59) s 0 9) (n, sl, kd, I, L, Rf))) eb_rok ?_
  rintro _ _ ⟨rfl, rfl⟩
  show ez_P _ _ _ _ _ _ 18 [(0, .ref 0), (1, .int w), (2, .int s), (3, .int v)] (.int 1 :: []) _ _
  refine ez_if_eq (tgt := 32) dX10_saw_18 (by decide) (fun c2 => absurd c2 (by decide)) (fun c2 => ?_)
  refine ez_iload_n (i := 3) dX10_saw_21 rfl rfl ?_
  refine ez_bipush (v := (-20)) dX10_saw_22 (by decide) ?_
  refine ez_bipush (v := 20) dX10_saw_24 (by decide) ?_
  refine ez_callS (M1 := mX10_within) (rest := []) dX10_saw_26 mlX10_158 msX10_within rfl (Nat.le_of_ble_eq_true rfl) rfl (zq_b0 hv (zq_b (q_X10_within (d + 59) v (-20) 20) (n, sl, kd, I, L, Rf))) eb_rok ?_
  rintro _ _ ⟨rfl, rfl⟩
  show ez_P _ _ _ _ _ _ 29 [(0, .ref 0), (1, .int w), (2, .int s), (3, .int v)] (.int 0 :: []) _ _
  refine ez_if_ne (tgt := 34) dX10_saw_29 (by decide) (fun c3 => absurd c3 (by decide)) (fun c3 => ?_)
  refine ez_iconst (v := (-1)) dX10_saw_32 (by decide) ?_
  refine ez_iret dX10_saw_33 rfl rfl ?_
  exact hK0.end
theorem c_saw {n : Nat} {sl : Nat × Nat} {kd : Nat → Nat × Nat} {I : Nat → Nat → Int32} {L : Nat → Nat → Int64} {Rf : Nat → Nat → Option Nat} (d : Nat) {T : zT} {H : Nat} (hC : zC n kd I L Rf T) (hO : zOk H T) (hH : H ≤ 1000000000) (w s v : Int32) : zq mX10_saw (d + 60) [.ref 0, .int w, .int s, .int v] (n, sl, kd, I, L, Rf) (zpC n sl kd I L Rf (some (.int (s_saw T w s v).1)) (s_saw T w s v).2) := by
  by_cases hw : -9 ≤ w ∧ w ≤ 9
  · by_cases hs : 0 ≤ s ∧ s ≤ 9
    · by_cases hv : -20 ≤ v ∧ v ≤ 20
      · by_cases hl : T.sn.length < 10
        · exact c_saw_ok d hC hO hH hw hs hv hl
        · exact c_saw_full d hC hO hH hw hs hv (by have := hO.snl; omega)
      · exact c_saw_n3 d hC hO hH hw hs hv
    · exact c_saw_n2 d hC hO hH hw hs
  · exact c_saw_n1 d hC hO hH hw
theorem s_heard_c {T : zT} {k : Nat} (hk : k < 5) {v : Int32} : (((0 ≤ nI k ∧ nI k ≤ 4) ∧ (0 ≤ v ∧ v ≤ z_hi (nI k))) ∧ T.hd.length < 12) ↔ ((0 ≤ v ∧ v ≤ nI (zhm k)) ∧ T.hd.length < 12) := by
  rw [(zhm_k k hk).1]
  exact ⟨fun h => ⟨h.1.2, h.2⟩, fun h => ⟨⟨z_n9 (N := 4) (by omega) (by decide), h.1⟩, h.2⟩⟩
theorem c_heard_ok {n : Nat} {sl : Nat × Nat} {kd : Nat → Nat × Nat} {I : Nat → Nat → Int32} {L : Nat → Nat → Int64} {Rf : Nat → Nat → Option Nat} (d : Nat) {T : zT} {H : Nat} (hC : zC n kd I L Rf T) (hO : zOk H T) (hH : H ≤ 1000000000) {k : Nat} (hk : k < 5) {v : Int32} (hv : 0 ≤ v ∧ v ≤ nI (zhm k)) (hl : T.hd.length < 12) : zq mX10_heard (d + 60) [.ref 0, .int (nI k), .int v] (n, sl, kd, I, L, Rf) (zpC n sl kd I L Rf (some (.int (s_heard T (nI k) v).1)) (s_heard T (nI k) v).2) := by
  have hF := hC.F; have hc7 := hO.c
  have hK0 : zK n kd I L Rf I I L Rf T none none false := zK.start hC
  intro f B
  refine ez_meth pn_X.2.2.2.2.2.2.2.2.2.2.1 (Nat.le_of_ble_eq_true rfl) ?_
  show ez_P _ _ _ _ _ _ 0 [(0, .ref 0), (1, .int (nI k)), (2, .int v)] [] (n, sl, kd, I, L, Rf) _
  refine ez_iload_n (i := 1) dX10_heard_0 rfl rfl ?_
  refine ez_iconst (v := 0) dX10_heard_1 (by decide) ?_
  refine ez_heard dX10_heard_2 xlX10_372 ?_
  refine ez_xlen (v := 5) dX10_heard_5 (Or.inl rfl) (by show Int32.ofNat (kd 1000050).2 = 5; rw [hC.hm.1]; decide) ?_
  refine ez_iconst (v := 1) dX10_heard_6 (by decide) ?_
  refine ez_isub dX10_heard_7 ?_
  refine ez_topE (y := 4) (by decide) ?_
  refine ez_callS (M1 := mX10_within) (rest := []) dX10_heard_8 mlX10_158 msX10_within rfl (Nat.le_of_ble_eq_true rfl) rfl (zq_b1 (z_n9 (N := 4) (n0 := k) (by omega) (by decide)) (zq_b (q_X10_within (d + 59) (nI k) 0 4) (n, sl, kd, I, L, Rf))) eb_rok ?_
  rintro _ _ ⟨rfl, rfl⟩
  show ez_P _ _ _ _ _ _ 11 [(0, .ref 0), (1, .int (nI k)), (2, .int v)] (.int 1 :: []) _ _
  refine ez_if_eq (tgt := 27) dX10_heard_11 (by decide) (fun c1 => absurd c1 (by decide)) (fun c1 => ?_)
  refine ez_iload_n (i := 2) dX10_heard_14 rfl rfl ?_
  refine ez_iconst (v := 0) dX10_heard_15 (by decide) ?_
  refine ez_heard dX10_heard_16 xlX10_372 ?_
  refine ez_iload_n (i := 1) dX10_heard_19 rfl rfl ?_
  refine ez_xi dX10_heard_20 (Or.inl rfl) hC.hm.1 (vp_in_nI hk (by decide)) ?_
  refine ez_callS (M1 := mX10_within) (rest := []) dX10_heard_21 mlX10_158 msX10_within rfl (Nat.le_of_ble_eq_true rfl) rfl (zq_b1 (show 0 ≤ v ∧ v ≤ I 1000050 (nI k).toNatClampNeg by rw [hC.hmk hk]; exact hv) (zq_b (q_X10_within (d + 59) v 0 (I 1000050 (nI k).toNatClampNeg)) (n, sl, kd, I, L, Rf))) eb_rok ?_
  rintro _ _ ⟨rfl, rfl⟩
  show ez_P _ _ _ _ _ _ 24 [(0, .ref 0), (1, .int (nI k)), (2, .int v)] (.int 1 :: []) _ _
  refine ez_if_ne (tgt := 29) dX10_heard_24 (by decide) (fun c2 => ?_) (fun c2 => absurd (by decide) c2)
  refine ez_aload_n (i := 0) dX10_heard_29 rfl rfl ?_
  refine ez_getR dX10_heard_30 flX10_67 (hF.lt (by decide)) (hF.kc (by decide) rfl) (hF.pt 94 rfl) ?_
  refine ez_iload_n (i := 1) dX10_heard_33 rfl rfl ?_
  refine ez_iload_n (i := 2) dX10_heard_34 rfl rfl ?_
  refine ez_iconst (v := 0) dX10_heard_35 (by decide) ?_
  refine ez_callV (M1 := mX8_add) (rest := []) dX10_heard_36 mlX10_349 mvX8_add rfl (hF.lt (by decide)) (hF.kc (by decide) rfl) (Nat.le_of_ble_eq_true rfl) rfl (y_X8_add_ok (I := I) (L := L) (d + 59) hF.rum (by decide) (by decide) hC.hd.1 hl (nI k) v 0) eb_rok1 ?_
  rintro _ _ ⟨rfl, rfl⟩
  refine ez_nmI (fun I3 hI3 => ?_)
  show ez_P _ _ _ _ _ _ 39 [(0, .ref 0), (1, .int (nI k)), (2, .int v)] (.int 1 :: []) (n, sl, kd, I3, L, Rf) _
  have hK4 : zK n kd I L Rf I I3 L Rf (T.w_hd (T.hd ++ [((nI k), v)])) none none false := by rw [hI3]; exact hK0.hdd2 (I1 := z_tadd I 97 T.hd.length (nI k) v 0) (hC.hd.add (nI k) v 0) (fun c hc => z_tadd_ne (by omega) (by omega) (by omega) (by omega))
  refine ez_if_eq (tgt := 52) dX10_heard_39 (by decide) (fun c5 => absurd c5 (by decide)) (fun c5 => ?_)
  refine ez_aload_n (i := 0) dX10_heard_42 rfl rfl ?_
  refine ez_getR dX10_heard_43 flX10_67 (hF.lt (by decide)) (hF.kc (by decide) rfl) (hF.pt 94 rfl) ?_
  refine ez_getI dX10_heard_46 flX10_351 (hF.lt (by decide)) (hF.kc (by decide) rfl) ?_
  refine ez_topE (y := nI (T.w_hd (T.hd ++ [((nI k), v)])).hd.length) hK4.C.hd.1 ?_
  refine ez_goto (tgt := 53) dX10_heard_49 (by decide) ?_
  refine ez_iret dX10_heard_53 rfl rfl ?_
  rw [show s_heard T (nI k) v = (nI (T.hd ++ [(nI k, v)]).length, T.w_hd (T.hd ++ [(nI k, v)])) from by unfold s_heard; rw [if_pos ((s_heard_c hk).mpr ⟨hv, hl⟩), List.length_append]; rfl]
  exact hK4.end
theorem c_heard_full {n : Nat} {sl : Nat × Nat} {kd : Nat → Nat × Nat} {I : Nat → Nat → Int32} {L : Nat → Nat → Int64} {Rf : Nat → Nat → Option Nat} (d : Nat) {T : zT} {H : Nat} (hC : zC n kd I L Rf T) (hO : zOk H T) (hH : H ≤ 1000000000) {k : Nat} (hk : k < 5) {v : Int32} (hv : 0 ≤ v ∧ v ≤ nI (zhm k)) (hl : T.hd.length = 12) : zq mX10_heard (d + 60) [.ref 0, .int (nI k), .int v] (n, sl, kd, I, L, Rf) (zpC n sl kd I L Rf (some (.int (s_heard T (nI k) v).1)) (s_heard T (nI k) v).2) := by
  have hF := hC.F; have hc7 := hO.c
  have hK0 : zK n kd I L Rf I I L Rf T none none false := zK.start hC
  have hsp : s_heard T (nI k) v = (-1, T) := (by unfold s_heard; rw [if_neg (fun g => absurd g.2 (by omega))])
  rw [hsp]
  intro f B
  refine ez_meth pn_X.2.2.2.2.2.2.2.2.2.2.1 (Nat.le_of_ble_eq_true rfl) ?_
  show ez_P _ _ _ _ _ _ 0 [(0, .ref 0), (1, .int (nI k)), (2, .int v)] [] (n, sl, kd, I, L, Rf) _
  refine ez_iload_n (i := 1) dX10_heard_0 rfl rfl ?_
  refine ez_iconst (v := 0) dX10_heard_1 (by decide) ?_
  refine ez_heard dX10_heard_2 xlX10_372 ?_
  refine ez_xlen (v := 5) dX10_heard_5 (Or.inl rfl) (by show Int32.ofNat (kd 1000050).2 = 5; rw [hC.hm.1]; decide) ?_
  refine ez_iconst (v := 1) dX10_heard_6 (by decide) ?_
  refine ez_isub dX10_heard_7 ?_
  refine ez_topE (y := 4) (by decide) ?_
  refine ez_callS (M1 := mX10_within) (rest := []) dX10_heard_8 mlX10_158 msX10_within rfl (Nat.le_of_ble_eq_true rfl) rfl (zq_b1 (z_n9 (N := 4) (n0 := k) (by omega) (by decide)) (zq_b (q_X10_within (d + 59) (nI k) 0 4) (n, sl, kd, I, L, Rf))) eb_rok ?_
  rintro _ _ ⟨rfl, rfl⟩
  show ez_P _ _ _ _ _ _ 11 [(0, .ref 0), (1, .int (nI k)), (2, .int v)] (.int 1 :: []) _ _
  refine ez_if_eq (tgt := 27) dX10_heard_11 (by decide) (fun c1 => absurd c1 (by decide)) (fun c1 => ?_)
  refine ez_iload_n (i := 2) dX10_heard_14 rfl rfl ?_
  refine ez_iconst (v := 0) dX10_heard_15 (by decide) ?_
  refine ez_heard dX10_heard_16 xlX10_372 ?_
  refine ez_iload_n (i := 1) dX10_heard_19 rfl rfl ?_
  refine ez_xi dX10_heard_20 (Or.inl rfl) hC.hm.1 (vp_in_nI hk (by decide)) ?_
  refine ez_callS (M1 := mX10_within) (rest := []) dX10_heard_21 mlX10_158 msX10_within rfl (Nat.le_of_ble_eq_true rfl) rfl (zq_b1 (show 0 ≤ v ∧ v ≤ I 1000050 (nI k).toNatClampNeg by rw [hC.hmk hk]; exact hv) (zq_b (q_X10_within (d + 59) v 0 (I 1000050 (nI k).toNatClampNeg)) (n, sl, kd, I, L, Rf))) eb_rok ?_
  rintro _ _ ⟨rfl, rfl⟩
  show ez_P _ _ _ _ _ _ 24 [(0, .ref 0), (1, .int (nI k)), (2, .int v)] (.int 1 :: []) _ _
  refine ez_if_ne (tgt := 29) dX10_heard_24 (by decide) (fun c2 => ?_) (fun c2 => absurd (by decide) c2)
  refine ez_aload_n (i := 0) dX10_heard_29 rfl rfl ?_
  refine ez_getR dX10_heard_30 flX10_67 (hF.lt (by decide)) (hF.kc (by decide) rfl) (hF.pt 94 rfl) ?_
  refine ez_iload_n (i := 1) dX10_heard_33 rfl rfl ?_
  refine ez_iload_n (i := 2) dX10_heard_34 rfl rfl ?_
  refine ez_iconst (v := 0) dX10_heard_35 (by decide) ?_
  refine ez_callV (M1 := mX8_add) (rest := []) dX10_heard_36 mlX10_349 mvX8_add rfl (hF.lt (by decide)) (hF.kc (by decide) rfl) (Nat.le_of_ble_eq_true rfl) rfl (y_X8_add_no (I := I) (L := L) (d + 59) hF.rum (by decide) (by decide) (by rw [hC.hd.1, hl]) (nI k) v 0) eb_rok ?_
  rintro _ _ ⟨rfl, rfl⟩
  show ez_P _ _ _ _ _ _ 39 [(0, .ref 0), (1, .int (nI k)), (2, .int v)] (.int 0 :: []) _ _
  refine ez_if_eq (tgt := 52) dX10_heard_39 (by decide) (fun c3 => ?_) (fun c3 => absurd (by decide) c3)
  refine ez_iconst (v := (-1)) dX10_heard_52 (by decide) ?_
  refine ez_iret dX10_heard_53 rfl rfl ?_
  exact hK0.end
theorem c_heard_nx {n : Nat} {sl : Nat × Nat} {kd : Nat → Nat × Nat} {I : Nat → Nat → Int32} {L : Nat → Nat → Int64} {Rf : Nat → Nat → Option Nat} (d : Nat) {T : zT} {H : Nat} (hC : zC n kd I L Rf T) (hO : zOk H T) (hH : H ≤ 1000000000) {k : Nat} (hk : k < 5) {v : Int32} (hv : ¬ (0 ≤ v ∧ v ≤ nI (zhm k))) : zq mX10_heard (d + 60) [.ref 0, .int (nI k), .int v] (n, sl, kd, I, L, Rf) (zpC n sl kd I L Rf (some (.int (s_heard T (nI k) v).1)) (s_heard T (nI k) v).2) := by
  have hF := hC.F; have hc7 := hO.c
  have hK0 : zK n kd I L Rf I I L Rf T none none false := zK.start hC
  have hsp : s_heard T (nI k) v = (-1, T) := (by unfold s_heard; rw [if_neg (fun g => hv ((s_heard_c hk).mp g).1)])
  rw [hsp]
  intro f B
  refine ez_meth pn_X.2.2.2.2.2.2.2.2.2.2.1 (Nat.le_of_ble_eq_true rfl) ?_
  show ez_P _ _ _ _ _ _ 0 [(0, .ref 0), (1, .int (nI k)), (2, .int v)] [] (n, sl, kd, I, L, Rf) _
  refine ez_iload_n (i := 1) dX10_heard_0 rfl rfl ?_
  refine ez_iconst (v := 0) dX10_heard_1 (by decide) ?_
  refine ez_heard dX10_heard_2 xlX10_372 ?_
  refine ez_xlen (v := 5) dX10_heard_5 (Or.inl rfl) (by show Int32.ofNat (kd 1000050).2 = 5; rw [hC.hm.1]; decide) ?_
  refine ez_iconst (v := 1) dX10_heard_6 (by decide) ?_
  refine ez_isub dX10_heard_7 ?_
  refine ez_topE (y := 4) (by decide) ?_
  refine ez_callS (M1 := mX10_within) (rest := []) dX10_heard_8 mlX10_158 msX10_within rfl (Nat.le_of_ble_eq_true rfl) rfl (zq_b1 (z_n9 (N := 4) (n0 := k) (by omega) (by decide)) (zq_b (q_X10_within (d + 59) (nI k) 0 4) (n, sl, kd, I, L, Rf))) eb_rok ?_
  rintro _ _ ⟨rfl, rfl⟩
  show ez_P _ _ _ _ _ _ 11 [(0, .ref 0), (1, .int (nI k)), (2, .int v)] (.int 1 :: []) _ _
  refine ez_if_eq (tgt := 27) dX10_heard_11 (by decide) (fun c1 => absurd c1 (by decide)) (fun c1 => ?_)
  refine ez_iload_n (i := 2) dX10_heard_14 rfl rfl ?_
  refine ez_iconst (v := 0) dX10_heard_15 (by decide) ?_
  refine ez_heard dX10_heard_16 xlX10_372 ?_
  refine ez_iload_n (i := 1) dX10_heard_19 rfl rfl ?_
  refine ez_xi dX10_heard_20 (Or.inl rfl) hC.hm.1 (vp_in_nI hk (by decide)) ?_
  refine ez_callS (M1 := mX10_within) (rest := []) dX10_heard_21 mlX10_158 msX10_within rfl (Nat.le_of_ble_eq_true rfl) rfl (zq_b0 (show ¬ (0 ≤ v ∧ v ≤ I 1000050 (nI k).toNatClampNeg) by rw [hC.hmk hk]; exact hv) (zq_b (q_X10_within (d + 59) v 0 (I 1000050 (nI k).toNatClampNeg)) (n, sl, kd, I, L, Rf))) eb_rok ?_
  rintro _ _ ⟨rfl, rfl⟩
  show ez_P _ _ _ _ _ _ 24 [(0, .ref 0), (1, .int (nI k)), (2, .int v)] (.int 0 :: []) _ _
  refine ez_if_ne (tgt := 29) dX10_heard_24 (by decide) (fun c2 => absurd c2 (by decide)) (fun c2 => ?_)
  refine ez_iconst (v := (-1)) dX10_heard_27 (by decide) ?_
  refine ez_iret dX10_heard_28 rfl rfl ?_
  exact hK0.end
theorem c_heard_no {n : Nat} {sl : Nat × Nat} {kd : Nat → Nat × Nat} {I : Nat → Nat → Int32} {L : Nat → Nat → Int64} {Rf : Nat → Nat → Option Nat} (d : Nat) {T : zT} {H : Nat} (hC : zC n kd I L Rf T) (hO : zOk H T) (hH : H ≤ 1000000000) {u v : Int32} (hn : ¬ (0 ≤ u ∧ u ≤ 4)) : zq mX10_heard (d + 60) [.ref 0, .int u, .int v] (n, sl, kd, I, L, Rf) (zpC n sl kd I L Rf (some (.int (s_heard T u v).1)) (s_heard T u v).2) := by
  have hF := hC.F; have hc7 := hO.c
  have hK0 : zK n kd I L Rf I I L Rf T none none false := zK.start hC
  have hsp : s_heard T u v = (-1, T) := (by unfold s_heard; rw [if_neg (fun g => hn g.1.1)])
  rw [hsp]
  intro f B
  refine ez_meth pn_X.2.2.2.2.2.2.2.2.2.2.1 (Nat.le_of_ble_eq_true rfl) ?_
  show ez_P _ _ _ _ _ _ 0 [(0, .ref 0), (1, .int u), (2, .int v)] [] (n, sl, kd, I, L, Rf) _
  refine ez_iload_n (i := 1) dX10_heard_0 rfl rfl ?_
  refine ez_iconst (v := 0) dX10_heard_1 (by decide) ?_
  refine ez_heard dX10_heard_2 xlX10_372 ?_
  refine ez_xlen (v := 5) dX10_heard_5 (Or.inl rfl) (by show Int32.ofNat (kd 1000050).2 = 5; rw [hC.hm.1]; decide) ?_
  refine ez_iconst (v := 1) dX10_heard_6 (by decide) ?_
  refine ez_isub dX10_heard_7 ?_
  refine ez_topE (y := 4) (by decide) ?_
  refine ez_callS (M1 := mX10_within) (rest := []) dX10_heard_8 mlX10_158 msX10_within rfl (Nat.le_of_ble_eq_true rfl) rfl (zq_b0 hn (zq_b (q_X10_within (d + 59) u 0 4) (n, sl, kd, I, L, Rf))) eb_rok ?_
  rintro _ _ ⟨rfl, rfl⟩
  show ez_P _ _ _ _ _ _ 11 [(0, .ref 0), (1, .int u), (2, .int v)] (.int 0 :: []) _ _
  refine ez_if_eq (tgt := 27) dX10_heard_11 (by decide) (fun c1 => ?_) (fun c1 => absurd (by decide) c1)
  refine ez_iconst (v := (-1)) dX10_heard_27 (by decide) ?_
  refine ez_iret dX10_heard_28 rfl rfl ?_
  exact hK0.end
theorem c_heard {n : Nat} {sl : Nat × Nat} {kd : Nat → Nat × Nat} {I : Nat → Nat → Int32} {L : Nat → Nat → Int64} {Rf : Nat → Nat → Option Nat} (d : Nat) {T : zT} {H : Nat} (hC : zC n kd I L Rf T) (hO : zOk H T) (hH : H ≤ 1000000000) (u v : Int32) : zq mX10_heard (d + 60) [.ref 0, .int u, .int v] (n, sl, kd, I, L, Rf) (zpC n sl kd I L Rf (some (.int (s_heard T u v).1)) (s_heard T u v).2) := by
  by_cases hn : 0 ≤ u ∧ u ≤ 4
  · obtain ⟨k, _, hk, rfl⟩ := z_pk1 (lo := 0) (N := 4) hn (by decide) (by decide)
    by_cases hv : 0 ≤ v ∧ v ≤ nI (zhm k)
    · by_cases hl : T.hd.length < 12
      · exact c_heard_ok d hC hO hH (by omega) hv hl
      · exact c_heard_full d hC hO hH (by omega) hv (by have := hO.hdl; omega)
    · exact c_heard_nx d hC hO hH (by omega) hv
  · exact c_heard_no d hC hO hH hn
theorem zcK.put {I : Nat → Nat → Int32} {c i : Nat} {kp : Nat → Option (Nat → Int32)} {x : Nat → Int32} (h : zcK I c kp) (hi : i < 2) (hs : zcS I 21 c x) : zcK (z_set (z_cp I (84 + 4 * i) 21 c) 92 i 1) c (fun q => if q = i then some x else kp q) := by
  intro k hk
  by_cases e : k = i
  · subst e
    simp only [if_pos]
    exact ⟨z_set_at, hs.cp.cg (z_set_ne (by omega)) (z_set_ne (by omega)) (z_set_ne (by omega)) (z_set_ne (by omega))⟩
  · have hh := h k hk
    have eb : (fun q => if q = i then some x else kp q) k = kp k := if_neg e
    rw [eb]
    have e92 : z_set (z_cp I (84 + 4 * i) 21 c) 92 i 1 92 k = I 92 k := by rw [z_set_nk e, z_cp_ne (by omega) (by omega) (by omega) (by omega)]
    have e84 : ∀ q, 84 + 4 * k ≤ q → q ≤ 84 + 4 * k + 3 → z_set (z_cp I (84 + 4 * i) 21 c) 92 i 1 q = I q := fun q h1 h2 => by rw [z_set_ne (by omega), z_cp_ne (by omega) (by omega) (by omega) (by omega)]
    cases ek : kp k with
    | none => rw [ek] at hh; simp only at hh ⊢; rw [e92, e84 _ (by omega) (by omega)]; exact hh
    | some y => rw [ek] at hh; simp only at hh ⊢; rw [e92]; exact ⟨hh.1, hh.2.cg (e84 _ (by omega) (by omega)) (e84 _ (by omega) (by omega)) (e84 _ (by omega) (by omega)) (e84 _ (by omega) (by omega))⟩
theorem c_keep_0 {n : Nat} {sl : Nat × Nat} {kd : Nat → Nat × Nat} {I : Nat → Nat → Int32} {L : Nat → Nat → Int64} {Rf : Nat → Nat → Option Nat} (d : Nat) {T : zT} {H : Nat} (hC : zC n kd I L Rf T) (hO : zOk H T) (hH : H ≤ 1000000000) : zq mX10_keep (d + 60) [.ref 0, .int 0] (n, sl, kd, I, L, Rf) (zpC n sl kd I L Rf (some (.int (s_keep T 0).1)) (s_keep T 0).2) := by
  have hF := hC.F; have hc7 := hO.c
  have hK0 : zK n kd I L Rf I I L Rf T none none false := zK.start hC
  have hsp : s_keep T 0 = (1, T.w_kp (fun q => if q = 0 then some T.x else T.kp q)) := rfl
  rw [hsp]
  intro f B
  refine ez_meth pn_X.2.2.2.2.2.2.2.2.2.2.1 (Nat.le_of_ble_eq_true rfl) ?_
  show ez_P _ _ _ _ _ _ 0 [(0, .ref 0), (1, .int 0)] [] (n, sl, kd, I, L, Rf) _
  refine ez_iload_n (i := 1) dX10_keep_0 rfl rfl ?_
  refine ez_iconst (v := 0) dX10_keep_1 (by decide) ?_
  refine ez_aload_n (i := 0) dX10_keep_2 rfl rfl ?_
  refine ez_getR dX10_keep_3 flX10_50 (hF.lt (by decide)) (hF.kc (by decide) rfl) (hF.pt 80 rfl) ?_
  refine ez_alen (v := 2) dX10_keep_6 (hF.lt (by decide)) (hF.ka (by decide) rfl) (by decide) (by decide) ?_
  refine ez_iconst (v := 1) dX10_keep_7 (by decide) ?_
  refine ez_isub dX10_keep_8 ?_
  refine ez_topE (y := 1) (by decide) ?_
  refine ez_callS (M1 := mX10_within) (rest := []) dX10_keep_9 mlX10_158 msX10_within rfl (Nat.le_of_ble_eq_true rfl) rfl (zq_b1 (by decide) (zq_b (q_X10_within (d + 59) 0 0 1) (n, sl, kd, I, L, Rf))) eb_rok ?_
  rintro _ _ ⟨rfl, rfl⟩
  show ez_P _ _ _ _ _ _ 12 [(0, .ref 0), (1, .int 0)] (.int 1 :: []) _ _
  refine ez_if_ne (tgt := 17) dX10_keep_12 (by decide) (fun c1 => ?_) (fun c1 => absurd (by decide) c1)
  refine ez_aload_n (i := 0) dX10_keep_17 rfl rfl ?_
  refine ez_getR dX10_keep_18 flX10_50 (hF.lt (by decide)) (hF.kc (by decide) rfl) (hF.pt 80 rfl) ?_
  refine ez_iload_n (i := 1) dX10_keep_21 rfl rfl ?_
  refine ez_aaN dX10_keep_22 (hF.lt (by decide)) (hF.ka (by decide) rfl) (by decide) (by decide) (hF.pt 84 rfl) ?_
  refine ez_aload_n (i := 0) dX10_keep_23 rfl rfl ?_
  refine ez_getR dX10_keep_24 flX10_33 (hF.lt (by decide)) (hF.kc (by decide) rfl) (hF.pt 21 rfl) ?_
  refine ez_callV (M1 := mX7_copy) (rest := []) dX10_keep_27 mlX10_188 mvX7_copy rfl (hF.lt (by decide)) (hF.kc (by decide) rfl) (Nat.le_of_ble_eq_true rfl) rfl (y_X7_copy (I := I) (L := L) (d + 59) (i := 84) (j := 21) (hF.shp (by decide)) (by decide) (hF.shp (by decide)) (by decide) (by decide) hC.sh.cr hO.c) (eb_vok rfl) ?_
  rintro _ _ ⟨rfl, rfl⟩
  refine ez_nmI (fun I2 hI2 => ?_)
  show ez_P _ _ _ _ _ _ 30 [(0, .ref 0), (1, .int 0)] [] (n, sl, kd, I2, L, Rf) _
  refine ez_aload_n (i := 0) dX10_keep_30 rfl rfl ?_
  refine ez_getR dX10_keep_31 flX10_54 (hF.lt (by decide)) (hF.kc (by decide) rfl) (hF.pt 89 rfl) ?_
  refine ez_iload_n (i := 1) dX10_keep_34 rfl rfl ?_
  refine ez_iconst (v := 1) dX10_keep_35 (by decide) ?_
  refine ez_zsN (k := 0) dX10_keep_36 (hF.lt (by decide)) (hF.lx (by decide)) (hF.ka (by decide) rfl) (by decide) (by decide) ?_
  refine ez_nmI (fun I3 hI3 => ?_)
  have hK4 : zK n kd I L Rf I I3 L Rf (T.w_kp (fun q => if q = 0 then some T.x else T.kp q)) none none false := by rw [hI3, hI2]; exact hK0.kpp (I1 := z_set (z_cp I (84 + 4 * 0) 21 T.c) 92 0 1) (hC.kp.put (by decide) hC.sh) (fun c hc => by rw [z_set_ne (by omega), z_cp_ne (by omega) (by omega) (by omega) (by omega)])
  refine ez_iconst (v := 1) dX10_keep_37 (by decide) ?_
  refine ez_iret dX10_keep_38 rfl (by decide) ?_
  exact hK4.end
theorem c_again_0 {n : Nat} {sl : Nat × Nat} {kd : Nat → Nat × Nat} {I : Nat → Nat → Int32} {L : Nat → Nat → Int64} {Rf : Nat → Nat → Option Nat} (d : Nat) {T : zT} {H : Nat} (hC : zC n kd I L Rf T) (hO : zOk H T) (hH : H ≤ 1000000000) {y : Nat → Int32} (hy : T.kp 0 = some y) : zq mX10_again (d + 60) [.ref 0, .int 0] (n, sl, kd, I, L, Rf) (zpC n sl kd I L Rf (some (.int (s_again T 0).1)) (s_again T 0).2) := by
  have hF := hC.F; have hc7 := hO.c
  have hK0 : zK n kd I L Rf I I L Rf T none none false := zK.start hC
  have hsp : s_again T 0 = (1, (T.w_x y).w_un []) := (by unfold s_again; rw [if_pos (by decide), show (0 : Int32).toNatClampNeg = 0 from by decide, hy])
  rw [hsp]
  intro f B
  refine ez_meth pn_X.2.2.2.2.2.2.2.2.2.2.1 (Nat.le_of_ble_eq_true rfl) ?_
  have hy9 := hC.kp 0 (by decide); rw [hy] at hy9
  have hy92 : I 92 0 = 1 := hy9.1
  have hyS : zcS I 84 T.c y := hy9.2
  show ez_P _ _ _ _ _ _ 0 [(0, .ref 0), (1, .int 0)] [] (n, sl, kd, I, L, Rf) _
  refine ez_iload_n (i := 1) dX10_again_0 rfl rfl ?_
  refine ez_iconst (v := 0) dX10_again_1 (by decide) ?_
  refine ez_aload_n (i := 0) dX10_again_2 rfl rfl ?_
  refine ez_getR dX10_again_3 flX10_50 (hF.lt (by decide)) (hF.kc (by decide) rfl) (hF.pt 80 rfl) ?_
  refine ez_alen (v := 2) dX10_again_6 (hF.lt (by decide)) (hF.ka (by decide) rfl) (by decide) (by decide) ?_
  refine ez_iconst (v := 1) dX10_again_7 (by decide) ?_
  refine ez_isub dX10_again_8 ?_
  refine ez_topE (y := 1) (by decide) ?_
  refine ez_callS (M1 := mX10_within) (rest := []) dX10_again_9 mlX10_158 msX10_within rfl (Nat.le_of_ble_eq_true rfl) rfl (zq_b1 (by decide) (zq_b (q_X10_within (d + 59) 0 0 1) (n, sl, kd, I, L, Rf))) eb_rok ?_
  rintro _ _ ⟨rfl, rfl⟩
  show ez_P _ _ _ _ _ _ 12 [(0, .ref 0), (1, .int 0)] (.int 1 :: []) _ _
  refine ez_if_eq (tgt := 43) dX10_again_12 (by decide) (fun c1 => absurd c1 (by decide)) (fun c1 => ?_)
  refine ez_aload_n (i := 0) dX10_again_15 rfl rfl ?_
  refine ez_getR dX10_again_16 flX10_54 (hF.lt (by decide)) (hF.kc (by decide) rfl) (hF.pt 89 rfl) ?_
  refine ez_iload_n (i := 1) dX10_again_19 rfl rfl ?_
  refine ez_zaN (k := 0) dX10_again_20 (hF.lt (by decide)) (hF.ka (by decide) rfl) (by decide) (by decide) ?_
  refine ez_topE (y := 1) hy92 ?_
  refine ez_if_eq (tgt := 43) dX10_again_21 (by decide) (fun c2 => absurd c2 (by decide)) (fun c2 => ?_)
  refine ez_aload_n (i := 0) dX10_again_24 rfl rfl ?_
  refine ez_getR dX10_again_25 flX10_50 (hF.lt (by decide)) (hF.kc (by decide) rfl) (hF.pt 80 rfl) ?_
  refine ez_iload_n (i := 1) dX10_again_28 rfl rfl ?_
  refine ez_aaN dX10_again_29 (hF.lt (by decide)) (hF.ka (by decide) rfl) (by decide) (by decide) (hF.pt 84 rfl) ?_
  refine ez_getI dX10_again_30 flX10_126 (hF.lt (by decide)) (hF.kc (by decide) rfl) ?_
  refine ez_topE (y := nI T.c) hyS.cr ?_
  refine ez_aload_n (i := 0) dX10_again_33 rfl rfl ?_
  refine ez_getR dX10_again_34 flX10_33 (hF.lt (by decide)) (hF.kc (by decide) rfl) (hF.pt 21 rfl) ?_
  refine ez_getI dX10_again_37 flX10_126 (hF.lt (by decide)) (hF.kc (by decide) rfl) ?_
  refine ez_topE (y := nI T.c) hK0.C.sh.cr ?_
  refine ez_icmp_eq (tgt := 45) dX10_again_40 (by decide) (fun c3 => ?_) (fun c3 => absurd rfl c3)
  refine ez_aload_n (i := 0) dX10_again_45 rfl rfl ?_
  refine ez_getR dX10_again_46 flX10_33 (hF.lt (by decide)) (hF.kc (by decide) rfl) (hF.pt 21 rfl) ?_
  refine ez_aload_n (i := 0) dX10_again_49 rfl rfl ?_
  refine ez_getR dX10_again_50 flX10_50 (hF.lt (by decide)) (hF.kc (by decide) rfl) (hF.pt 80 rfl) ?_
  refine ez_iload_n (i := 1) dX10_again_53 rfl rfl ?_
  refine ez_aaN dX10_again_54 (hF.lt (by decide)) (hF.ka (by decide) rfl) (by decide) (by decide) (hF.pt 84 rfl) ?_
  refine ez_callV (M1 := mX7_copy) (rest := []) dX10_again_55 mlX10_188 mvX7_copy rfl (hF.lt (by decide)) (hF.kc (by decide) rfl) (Nat.le_of_ble_eq_true rfl) rfl (y_X7_copy (I := I) (L := L) (d + 59) (i := 21) (j := 84) (hF.shp (by decide)) (by decide) (hF.shp (by decide)) (by decide) (by decide) hyS.cr hO.c) (eb_vok rfl) ?_
  rintro _ _ ⟨rfl, rfl⟩
  refine ez_nmI (fun I4 hI4 => ?_)
  show ez_P _ _ _ _ _ _ 58 [(0, .ref 0), (1, .int 0)] [] (n, sl, kd, I4, L, Rf) _
  have hK5 : zK n kd I L Rf I I4 L Rf (T.w_x y) none none false := by rw [hI4]; exact hK0.sh (I1 := z_cp I 21 84 T.c) hyS.cp (fun c hc => z_cp_ne (by omega) (by omega) (by omega) (by omega))
  refine ez_aload_n (i := 0) dX10_again_58 rfl rfl ?_
  refine ez_getR dX10_again_59 flX10_46 (hF.lt (by decide)) (hF.kc (by decide) rfl) (hF.pt 30 rfl) ?_
  refine ez_callV (M1 := mX2_empty) (rest := []) dX10_again_62 mlX10_136 mvX2_empty rfl (hF.lt (by decide)) (hF.kc (by decide) rfl) (Nat.le_of_ble_eq_true rfl) rfl (k_pempty (T := (T.w_x y)) (I := I4) (L := L) (d + 59) hK5.C) k_po_ok ?_
  rintro _ _ ⟨rfl, I6, rfl, hs7, hn8⟩
  show ez_P _ _ _ _ _ _ 65 [(0, .ref 0), (1, .int 0)] [] (n, sl, kd, I6, L, Rf) _
  have hK9 : zK n kd I L Rf I I6 L Rf ((T.w_x y).w_un []) none none false := by exact hK5.unn hs7 hn8
  refine ez_iconst (v := 1) dX10_again_65 (by decide) ?_
  refine ez_iret dX10_again_66 rfl (by decide) ?_
  exact hK9.end
theorem c_again_n00 {n : Nat} {sl : Nat × Nat} {kd : Nat → Nat × Nat} {I : Nat → Nat → Int32} {L : Nat → Nat → Int64} {Rf : Nat → Nat → Option Nat} (d : Nat) {T : zT} {H : Nat} (hC : zC n kd I L Rf T) (hO : zOk H T) (hH : H ≤ 1000000000) (hy : T.kp 0 = none) (hy92 : I 92 0 = 0) : zq mX10_again (d + 60) [.ref 0, .int 0] (n, sl, kd, I, L, Rf) (zpC n sl kd I L Rf (some (.int (s_again T 0).1)) (s_again T 0).2) := by
  have hF := hC.F; have hc7 := hO.c
  have hK0 : zK n kd I L Rf I I L Rf T none none false := zK.start hC
  have hsp : s_again T 0 = (0, T) := (by unfold s_again; rw [if_pos (by decide), show (0 : Int32).toNatClampNeg = 0 from by decide, hy])
  rw [hsp]
  intro f B
  refine ez_meth pn_X.2.2.2.2.2.2.2.2.2.2.1 (Nat.le_of_ble_eq_true rfl) ?_
  show ez_P _ _ _ _ _ _ 0 [(0, .ref 0), (1, .int 0)] [] (n, sl, kd, I, L, Rf) _
  refine ez_iload_n (i := 1) dX10_again_0 rfl rfl ?_
  refine ez_iconst (v := 0) dX10_again_1 (by decide) ?_
  refine ez_aload_n (i := 0) dX10_again_2 rfl rfl ?_
  refine ez_getR dX10_again_3 flX10_50 (hF.lt (by decide)) (hF.kc (by decide) rfl) (hF.pt 80 rfl) ?_
  refine ez_alen (v := 2) dX10_again_6 (hF.lt (by decide)) (hF.ka (by decide) rfl) (by decide) (by decide) ?_
  refine ez_iconst (v := 1) dX10_again_7 (by decide) ?_
  refine ez_isub dX10_again_8 ?_
  refine ez_topE (y := 1) (by decide) ?_
  refine ez_callS (M1 := mX10_within) (rest := []) dX10_again_9 mlX10_158 msX10_within rfl (Nat.le_of_ble_eq_true rfl) rfl (zq_b1 (by decide) (zq_b (q_X10_within (d + 59) 0 0 1) (n, sl, kd, I, L, Rf))) eb_rok ?_
  rintro _ _ ⟨rfl, rfl⟩
  show ez_P _ _ _ _ _ _ 12 [(0, .ref 0), (1, .int 0)] (.int 1 :: []) _ _
  refine ez_if_eq (tgt := 43) dX10_again_12 (by decide) (fun c1 => absurd c1 (by decide)) (fun c1 => ?_)
  refine ez_aload_n (i := 0) dX10_again_15 rfl rfl ?_
  refine ez_getR dX10_again_16 flX10_54 (hF.lt (by decide)) (hF.kc (by decide) rfl) (hF.pt 89 rfl) ?_
  refine ez_iload_n (i := 1) dX10_again_19 rfl rfl ?_
  refine ez_zaN (k := 0) dX10_again_20 (hF.lt (by decide)) (hF.ka (by decide) rfl) (by decide) (by decide) ?_
  refine ez_topE (y := 0) hy92 ?_
  refine ez_if_eq (tgt := 43) dX10_again_21 (by decide) (fun c2 => ?_) (fun c2 => absurd (by decide) c2)
  refine ez_iconst (v := 0) dX10_again_43 (by decide) ?_
  refine ez_iret dX10_again_44 rfl (by decide) ?_
  exact hK0.end
theorem c_again_n01 {n : Nat} {sl : Nat × Nat} {kd : Nat → Nat × Nat} {I : Nat → Nat → Int32} {L : Nat → Nat → Int64} {Rf : Nat → Nat → Option Nat} (d : Nat) {T : zT} {H : Nat} (hC : zC n kd I L Rf T) (hO : zOk H T) (hH : H ≤ 1000000000) (hy : T.kp 0 = none) (hy92 : I 92 0 = 1) {q : Nat} (hq : q < T.c) (hq3 : I 84 3 = nI q) : zq mX10_again (d + 60) [.ref 0, .int 0] (n, sl, kd, I, L, Rf) (zpC n sl kd I L Rf (some (.int (s_again T 0).1)) (s_again T 0).2) := by
  have hF := hC.F; have hc7 := hO.c
  have hK0 : zK n kd I L Rf I I L Rf T none none false := zK.start hC
  have hsp : s_again T 0 = (0, T) := (by unfold s_again; rw [if_pos (by decide), show (0 : Int32).toNatClampNeg = 0 from by decide, hy])
  rw [hsp]
  intro f B
  refine ez_meth pn_X.2.2.2.2.2.2.2.2.2.2.1 (Nat.le_of_ble_eq_true rfl) ?_
  show ez_P _ _ _ _ _ _ 0 [(0, .ref 0), (1, .int 0)] [] (n, sl, kd, I, L, Rf) _
  refine ez_iload_n (i := 1) dX10_again_0 rfl rfl ?_
  refine ez_iconst (v := 0) dX10_again_1 (by decide) ?_
  refine ez_aload_n (i := 0) dX10_again_2 rfl rfl ?_
  refine ez_getR dX10_again_3 flX10_50 (hF.lt (by decide)) (hF.kc (by decide) rfl) (hF.pt 80 rfl) ?_
  refine ez_alen (v := 2) dX10_again_6 (hF.lt (by decide)) (hF.ka (by decide) rfl) (by decide) (by decide) ?_
  refine ez_iconst (v := 1) dX10_again_7 (by decide) ?_
  refine ez_isub dX10_again_8 ?_
  refine ez_topE (y := 1) (by decide) ?_
  refine ez_callS (M1 := mX10_within) (rest := []) dX10_again_9 mlX10_158 msX10_within rfl (Nat.le_of_ble_eq_true rfl) rfl (zq_b1 (by decide) (zq_b (q_X10_within (d + 59) 0 0 1) (n, sl, kd, I, L, Rf))) eb_rok ?_
  rintro _ _ ⟨rfl, rfl⟩
  show ez_P _ _ _ _ _ _ 12 [(0, .ref 0), (1, .int 0)] (.int 1 :: []) _ _
  refine ez_if_eq (tgt := 43) dX10_again_12 (by decide) (fun c1 => absurd c1 (by decide)) (fun c1 => ?_)
  refine ez_aload_n (i := 0) dX10_again_15 rfl rfl ?_
  refine ez_getR dX10_again_16 flX10_54 (hF.lt (by decide)) (hF.kc (by decide) rfl) (hF.pt 89 rfl) ?_
  refine ez_iload_n (i := 1) dX10_again_19 rfl rfl ?_
  refine ez_zaN (k := 0) dX10_again_20 (hF.lt (by decide)) (hF.ka (by decide) rfl) (by decide) (by decide) ?_
  refine ez_topE (y := 1) hy92 ?_
  refine ez_if_eq (tgt := 43) dX10_again_21 (by decide) (fun c2 => absurd c2 (by decide)) (fun c2 => ?_)
  refine ez_aload_n (i := 0) dX10_again_24 rfl rfl ?_
  refine ez_getR dX10_again_25 flX10_50 (hF.lt (by decide)) (hF.kc (by decide) rfl) (hF.pt 80 rfl) ?_
  refine ez_iload_n (i := 1) dX10_again_28 rfl rfl ?_
  refine ez_aaN dX10_again_29 (hF.lt (by decide)) (hF.ka (by decide) rfl) (by decide) (by decide) (hF.pt 84 rfl) ?_
  refine ez_getI dX10_again_30 flX10_126 (hF.lt (by decide)) (hF.kc (by decide) rfl) ?_
  refine ez_topE (y := nI q) hq3 ?_
  refine ez_aload_n (i := 0) dX10_again_33 rfl rfl ?_
  refine ez_getR dX10_again_34 flX10_33 (hF.lt (by decide)) (hF.kc (by decide) rfl) (hF.pt 21 rfl) ?_
  refine ez_getI dX10_again_37 flX10_126 (hF.lt (by decide)) (hF.kc (by decide) rfl) ?_
  refine ez_topE (y := nI T.c) hK0.C.sh.cr ?_
  refine ez_icmp_eq (tgt := 45) dX10_again_40 (by decide) (fun c3 => absurd c3 (fun e => absurd (z_nIinj e (by omega) (by omega)) (by omega))) (fun c3 => ?_)
  refine ez_iconst (v := 0) dX10_again_43 (by decide) ?_
  refine ez_iret dX10_again_44 rfl (by decide) ?_
  exact hK0.end
theorem c_keep_1 {n : Nat} {sl : Nat × Nat} {kd : Nat → Nat × Nat} {I : Nat → Nat → Int32} {L : Nat → Nat → Int64} {Rf : Nat → Nat → Option Nat} (d : Nat) {T : zT} {H : Nat} (hC : zC n kd I L Rf T) (hO : zOk H T) (hH : H ≤ 1000000000) : zq mX10_keep (d + 60) [.ref 0, .int 1] (n, sl, kd, I, L, Rf) (zpC n sl kd I L Rf (some (.int (s_keep T 1).1)) (s_keep T 1).2) := by
  have hF := hC.F; have hc7 := hO.c
  have hK0 : zK n kd I L Rf I I L Rf T none none false := zK.start hC
  have hsp : s_keep T 1 = (1, T.w_kp (fun q => if q = 1 then some T.x else T.kp q)) := rfl
  rw [hsp]
  intro f B
  refine ez_meth pn_X.2.2.2.2.2.2.2.2.2.2.1 (Nat.le_of_ble_eq_true rfl) ?_
  show ez_P _ _ _ _ _ _ 0 [(0, .ref 0), (1, .int 1)] [] (n, sl, kd, I, L, Rf) _
  refine ez_iload_n (i := 1) dX10_keep_0 rfl rfl ?_
  refine ez_iconst (v := 0) dX10_keep_1 (by decide) ?_
  refine ez_aload_n (i := 0) dX10_keep_2 rfl rfl ?_
  refine ez_getR dX10_keep_3 flX10_50 (hF.lt (by decide)) (hF.kc (by decide) rfl) (hF.pt 80 rfl) ?_
  refine ez_alen (v := 2) dX10_keep_6 (hF.lt (by decide)) (hF.ka (by decide) rfl) (by decide) (by decide) ?_
  refine ez_iconst (v := 1) dX10_keep_7 (by decide) ?_
  refine ez_isub dX10_keep_8 ?_
  refine ez_topE (y := 1) (by decide) ?_
  refine ez_callS (M1 := mX10_within) (rest := []) dX10_keep_9 mlX10_158 msX10_within rfl (Nat.le_of_ble_eq_true rfl) rfl (zq_b1 (by decide) (zq_b (q_X10_within (d + 59) 1 0 1) (n, sl, kd, I, L, Rf))) eb_rok ?_
  rintro _ _ ⟨rfl, rfl⟩
  show ez_P _ _ _ _ _ _ 12 [(0, .ref 0), (1, .int 1)] (.int 1 :: []) _ _
  refine ez_if_ne (tgt := 17) dX10_keep_12 (by decide) (fun c1 => ?_) (fun c1 => absurd (by decide) c1)
  refine ez_aload_n (i := 0) dX10_keep_17 rfl rfl ?_
  refine ez_getR dX10_keep_18 flX10_50 (hF.lt (by decide)) (hF.kc (by decide) rfl) (hF.pt 80 rfl) ?_
  refine ez_iload_n (i := 1) dX10_keep_21 rfl rfl ?_
  refine ez_aaN dX10_keep_22 (hF.lt (by decide)) (hF.ka (by decide) rfl) (by decide) (by decide) (hF.pt 88 rfl) ?_
  refine ez_aload_n (i := 0) dX10_keep_23 rfl rfl ?_
  refine ez_getR dX10_keep_24 flX10_33 (hF.lt (by decide)) (hF.kc (by decide) rfl) (hF.pt 21 rfl) ?_
  refine ez_callV (M1 := mX7_copy) (rest := []) dX10_keep_27 mlX10_188 mvX7_copy rfl (hF.lt (by decide)) (hF.kc (by decide) rfl) (Nat.le_of_ble_eq_true rfl) rfl (y_X7_copy (I := I) (L := L) (d + 59) (i := 88) (j := 21) (hF.shp (by decide)) (by decide) (hF.shp (by decide)) (by decide) (by decide) hC.sh.cr hO.c) (eb_vok rfl) ?_
  rintro _ _ ⟨rfl, rfl⟩
  refine ez_nmI (fun I2 hI2 => ?_)
  show ez_P _ _ _ _ _ _ 30 [(0, .ref 0), (1, .int 1)] [] (n, sl, kd, I2, L, Rf) _
  refine ez_aload_n (i := 0) dX10_keep_30 rfl rfl ?_
  refine ez_getR dX10_keep_31 flX10_54 (hF.lt (by decide)) (hF.kc (by decide) rfl) (hF.pt 89 rfl) ?_
  refine ez_iload_n (i := 1) dX10_keep_34 rfl rfl ?_
  refine ez_iconst (v := 1) dX10_keep_35 (by decide) ?_
  refine ez_zsN (k := 1) dX10_keep_36 (hF.lt (by decide)) (hF.lx (by decide)) (hF.ka (by decide) rfl) (by decide) (by decide) ?_
  refine ez_nmI (fun I3 hI3 => ?_)
  have hK4 : zK n kd I L Rf I I3 L Rf (T.w_kp (fun q => if q = 1 then some T.x else T.kp q)) none none false := by rw [hI3, hI2]; exact hK0.kpp (I1 := z_set (z_cp I (84 + 4 * 1) 21 T.c) 92 1 1) (hC.kp.put (by decide) hC.sh) (fun c hc => by rw [z_set_ne (by omega), z_cp_ne (by omega) (by omega) (by omega) (by omega)])
  refine ez_iconst (v := 1) dX10_keep_37 (by decide) ?_
  refine ez_iret dX10_keep_38 rfl (by decide) ?_
  exact hK4.end
theorem c_again_1 {n : Nat} {sl : Nat × Nat} {kd : Nat → Nat × Nat} {I : Nat → Nat → Int32} {L : Nat → Nat → Int64} {Rf : Nat → Nat → Option Nat} (d : Nat) {T : zT} {H : Nat} (hC : zC n kd I L Rf T) (hO : zOk H T) (hH : H ≤ 1000000000) {y : Nat → Int32} (hy : T.kp 1 = some y) : zq mX10_again (d + 60) [.ref 0, .int 1] (n, sl, kd, I, L, Rf) (zpC n sl kd I L Rf (some (.int (s_again T 1).1)) (s_again T 1).2) := by
  have hF := hC.F; have hc7 := hO.c
  have hK0 : zK n kd I L Rf I I L Rf T none none false := zK.start hC
  have hsp : s_again T 1 = (1, (T.w_x y).w_un []) := (by unfold s_again; rw [if_pos (by decide), show (1 : Int32).toNatClampNeg = 1 from by decide, hy])
  rw [hsp]
  intro f B
  refine ez_meth pn_X.2.2.2.2.2.2.2.2.2.2.1 (Nat.le_of_ble_eq_true rfl) ?_
  have hy9 := hC.kp 1 (by decide); rw [hy] at hy9
  have hy92 : I 92 1 = 1 := hy9.1
  have hyS : zcS I 88 T.c y := hy9.2
  show ez_P _ _ _ _ _ _ 0 [(0, .ref 0), (1, .int 1)] [] (n, sl, kd, I, L, Rf) _
  refine ez_iload_n (i := 1) dX10_again_0 rfl rfl ?_
  refine ez_iconst (v := 0) dX10_again_1 (by decide) ?_
  refine ez_aload_n (i := 0) dX10_again_2 rfl rfl ?_
  refine ez_getR dX10_again_3 flX10_50 (hF.lt (by decide)) (hF.kc (by decide) rfl) (hF.pt 80 rfl) ?_
  refine ez_alen (v := 2) dX10_again_6 (hF.lt (by decide)) (hF.ka (by decide) rfl) (by decide) (by decide) ?_
  refine ez_iconst (v := 1) dX10_again_7 (by decide) ?_
  refine ez_isub dX10_again_8 ?_
  refine ez_topE (y := 1) (by decide) ?_
  refine ez_callS (M1 := mX10_within) (rest := []) dX10_again_9 mlX10_158 msX10_within rfl (Nat.le_of_ble_eq_true rfl) rfl (zq_b1 (by decide) (zq_b (q_X10_within (d + 59) 1 0 1) (n, sl, kd, I, L, Rf))) eb_rok ?_
  rintro _ _ ⟨rfl, rfl⟩
  show ez_P _ _ _ _ _ _ 12 [(0, .ref 0), (1, .int 1)] (.int 1 :: []) _ _
  refine ez_if_eq (tgt := 43) dX10_again_12 (by decide) (fun c1 => absurd c1 (by decide)) (fun c1 => ?_)
  refine ez_aload_n (i := 0) dX10_again_15 rfl rfl ?_
  refine ez_getR dX10_again_16 flX10_54 (hF.lt (by decide)) (hF.kc (by decide) rfl) (hF.pt 89 rfl) ?_
  refine ez_iload_n (i := 1) dX10_again_19 rfl rfl ?_
  refine ez_zaN (k := 1) dX10_again_20 (hF.lt (by decide)) (hF.ka (by decide) rfl) (by decide) (by decide) ?_
  refine ez_topE (y := 1) hy92 ?_
  refine ez_if_eq (tgt := 43) dX10_again_21 (by decide) (fun c2 => absurd c2 (by decide)) (fun c2 => ?_)
  refine ez_aload_n (i := 0) dX10_again_24 rfl rfl ?_
  refine ez_getR dX10_again_25 flX10_50 (hF.lt (by decide)) (hF.kc (by decide) rfl) (hF.pt 80 rfl) ?_
  refine ez_iload_n (i := 1) dX10_again_28 rfl rfl ?_
  refine ez_aaN dX10_again_29 (hF.lt (by decide)) (hF.ka (by decide) rfl) (by decide) (by decide) (hF.pt 88 rfl) ?_
  refine ez_getI dX10_again_30 flX10_126 (hF.lt (by decide)) (hF.kc (by decide) rfl) ?_
  refine ez_topE (y := nI T.c) hyS.cr ?_
  refine ez_aload_n (i := 0) dX10_again_33 rfl rfl ?_
  refine ez_getR dX10_again_34 flX10_33 (hF.lt (by decide)) (hF.kc (by decide) rfl) (hF.pt 21 rfl) ?_
  refine ez_getI dX10_again_37 flX10_126 (hF.lt (by decide)) (hF.kc (by decide) rfl) ?_
  refine ez_topE (y := nI T.c) hK0.C.sh.cr ?_
  refine ez_icmp_eq (tgt := 45) dX10_again_40 (by decide) (fun c3 => ?_) (fun c3 => absurd rfl c3)
  refine ez_aload_n (i := 0) dX10_again_45 rfl rfl ?_
  refine ez_getR dX10_again_46 flX10_33 (hF.lt (by decide)) (hF.kc (by decide) rfl) (hF.pt 21 rfl) ?_
  refine ez_aload_n (i := 0) dX10_again_49 rfl rfl ?_
  refine ez_getR dX10_again_50 flX10_50 (hF.lt (by decide)) (hF.kc (by decide) rfl) (hF.pt 80 rfl) ?_
  refine ez_iload_n (i := 1) dX10_again_53 rfl rfl ?_
  refine ez_aaN dX10_again_54 (hF.lt (by decide)) (hF.ka (by decide) rfl) (by decide) (by decide) (hF.pt 88 rfl) ?_
  refine ez_callV (M1 := mX7_copy) (rest := []) dX10_again_55 mlX10_188 mvX7_copy rfl (hF.lt (by decide)) (hF.kc (by decide) rfl) (Nat.le_of_ble_eq_true rfl) rfl (y_X7_copy (I := I) (L := L) (d + 59) (i := 21) (j := 88) (hF.shp (by decide)) (by decide) (hF.shp (by decide)) (by decide) (by decide) hyS.cr hO.c) (eb_vok rfl) ?_
  rintro _ _ ⟨rfl, rfl⟩
  refine ez_nmI (fun I4 hI4 => ?_)
  show ez_P _ _ _ _ _ _ 58 [(0, .ref 0), (1, .int 1)] [] (n, sl, kd, I4, L, Rf) _
  have hK5 : zK n kd I L Rf I I4 L Rf (T.w_x y) none none false := by rw [hI4]; exact hK0.sh (I1 := z_cp I 21 88 T.c) hyS.cp (fun c hc => z_cp_ne (by omega) (by omega) (by omega) (by omega))
  refine ez_aload_n (i := 0) dX10_again_58 rfl rfl ?_
  refine ez_getR dX10_again_59 flX10_46 (hF.lt (by decide)) (hF.kc (by decide) rfl) (hF.pt 30 rfl) ?_
  refine ez_callV (M1 := mX2_empty) (rest := []) dX10_again_62 mlX10_136 mvX2_empty rfl (hF.lt (by decide)) (hF.kc (by decide) rfl) (Nat.le_of_ble_eq_true rfl) rfl (k_pempty (T := (T.w_x y)) (I := I4) (L := L) (d + 59) hK5.C) k_po_ok ?_
  rintro _ _ ⟨rfl, I6, rfl, hs7, hn8⟩
  show ez_P _ _ _ _ _ _ 65 [(0, .ref 0), (1, .int 1)] [] (n, sl, kd, I6, L, Rf) _
  have hK9 : zK n kd I L Rf I I6 L Rf ((T.w_x y).w_un []) none none false := by exact hK5.unn hs7 hn8
  refine ez_iconst (v := 1) dX10_again_65 (by decide) ?_
  refine ez_iret dX10_again_66 rfl (by decide) ?_
  exact hK9.end
theorem c_again_n10 {n : Nat} {sl : Nat × Nat} {kd : Nat → Nat × Nat} {I : Nat → Nat → Int32} {L : Nat → Nat → Int64} {Rf : Nat → Nat → Option Nat} (d : Nat) {T : zT} {H : Nat} (hC : zC n kd I L Rf T) (hO : zOk H T) (hH : H ≤ 1000000000) (hy : T.kp 1 = none) (hy92 : I 92 1 = 0) : zq mX10_again (d + 60) [.ref 0, .int 1] (n, sl, kd, I, L, Rf) (zpC n sl kd I L Rf (some (.int (s_again T 1).1)) (s_again T 1).2) := by
  have hF := hC.F; have hc7 := hO.c
  have hK0 : zK n kd I L Rf I I L Rf T none none false := zK.start hC
  have hsp : s_again T 1 = (0, T) := (by unfold s_again; rw [if_pos (by decide), show (1 : Int32).toNatClampNeg = 1 from by decide, hy])
  rw [hsp]
  intro f B
  refine ez_meth pn_X.2.2.2.2.2.2.2.2.2.2.1 (Nat.le_of_ble_eq_true rfl) ?_
  show ez_P _ _ _ _ _ _ 0 [(0, .ref 0), (1, .int 1)] [] (n, sl, kd, I, L, Rf) _
  refine ez_iload_n (i := 1) dX10_again_0 rfl rfl ?_
  refine ez_iconst (v := 0) dX10_again_1 (by decide) ?_
  refine ez_aload_n (i := 0) dX10_again_2 rfl rfl ?_
  refine ez_getR dX10_again_3 flX10_50 (hF.lt (by decide)) (hF.kc (by decide) rfl) (hF.pt 80 rfl) ?_
  refine ez_alen (v := 2) dX10_again_6 (hF.lt (by decide)) (hF.ka (by decide) rfl) (by decide) (by decide) ?_
  refine ez_iconst (v := 1) dX10_again_7 (by decide) ?_
  refine ez_isub dX10_again_8 ?_
  refine ez_topE (y := 1) (by decide) ?_
  refine ez_callS (M1 := mX10_within) (rest := []) dX10_again_9 mlX10_158 msX10_within rfl (Nat.le_of_ble_eq_true rfl) rfl (zq_b1 (by decide) (zq_b (q_X10_within (d + 59) 1 0 1) (n, sl, kd, I, L, Rf))) eb_rok ?_
  rintro _ _ ⟨rfl, rfl⟩
  show ez_P _ _ _ _ _ _ 12 [(0, .ref 0), (1, .int 1)] (.int 1 :: []) _ _
  refine ez_if_eq (tgt := 43) dX10_again_12 (by decide) (fun c1 => absurd c1 (by decide)) (fun c1 => ?_)
  refine ez_aload_n (i := 0) dX10_again_15 rfl rfl ?_
  refine ez_getR dX10_again_16 flX10_54 (hF.lt (by decide)) (hF.kc (by decide) rfl) (hF.pt 89 rfl) ?_
  refine ez_iload_n (i := 1) dX10_again_19 rfl rfl ?_
  refine ez_zaN (k := 1) dX10_again_20 (hF.lt (by decide)) (hF.ka (by decide) rfl) (by decide) (by decide) ?_
  refine ez_topE (y := 0) hy92 ?_
  refine ez_if_eq (tgt := 43) dX10_again_21 (by decide) (fun c2 => ?_) (fun c2 => absurd (by decide) c2)
  refine ez_iconst (v := 0) dX10_again_43 (by decide) ?_
  refine ez_iret dX10_again_44 rfl (by decide) ?_
  exact hK0.end
theorem c_again_n11 {n : Nat} {sl : Nat × Nat} {kd : Nat → Nat × Nat} {I : Nat → Nat → Int32} {L : Nat → Nat → Int64} {Rf : Nat → Nat → Option Nat} (d : Nat) {T : zT} {H : Nat} (hC : zC n kd I L Rf T) (hO : zOk H T) (hH : H ≤ 1000000000) (hy : T.kp 1 = none) (hy92 : I 92 1 = 1) {q : Nat} (hq : q < T.c) (hq3 : I 88 3 = nI q) : zq mX10_again (d + 60) [.ref 0, .int 1] (n, sl, kd, I, L, Rf) (zpC n sl kd I L Rf (some (.int (s_again T 1).1)) (s_again T 1).2) := by
  have hF := hC.F; have hc7 := hO.c
  have hK0 : zK n kd I L Rf I I L Rf T none none false := zK.start hC
  have hsp : s_again T 1 = (0, T) := (by unfold s_again; rw [if_pos (by decide), show (1 : Int32).toNatClampNeg = 1 from by decide, hy])
  rw [hsp]
  intro f B
  refine ez_meth pn_X.2.2.2.2.2.2.2.2.2.2.1 (Nat.le_of_ble_eq_true rfl) ?_
  show ez_P _ _ _ _ _ _ 0 [(0, .ref 0), (1, .int 1)] [] (n, sl, kd, I, L, Rf) _
  refine ez_iload_n (i := 1) dX10_again_0 rfl rfl ?_
  refine ez_iconst (v := 0) dX10_again_1 (by decide) ?_
  refine ez_aload_n (i := 0) dX10_again_2 rfl rfl ?_
  refine ez_getR dX10_again_3 flX10_50 (hF.lt (by decide)) (hF.kc (by decide) rfl) (hF.pt 80 rfl) ?_
  refine ez_alen (v := 2) dX10_again_6 (hF.lt (by decide)) (hF.ka (by decide) rfl) (by decide) (by decide) ?_
  refine ez_iconst (v := 1) dX10_again_7 (by decide) ?_
  refine ez_isub dX10_again_8 ?_
  refine ez_topE (y := 1) (by decide) ?_
  refine ez_callS (M1 := mX10_within) (rest := []) dX10_again_9 mlX10_158 msX10_within rfl (Nat.le_of_ble_eq_true rfl) rfl (zq_b1 (by decide) (zq_b (q_X10_within (d + 59) 1 0 1) (n, sl, kd, I, L, Rf))) eb_rok ?_
  rintro _ _ ⟨rfl, rfl⟩
  show ez_P _ _ _ _ _ _ 12 [(0, .ref 0), (1, .int 1)] (.int 1 :: []) _ _
  refine ez_if_eq (tgt := 43) dX10_again_12 (by decide) (fun c1 => absurd c1 (by decide)) (fun c1 => ?_)
  refine ez_aload_n (i := 0) dX10_again_15 rfl rfl ?_
  refine ez_getR dX10_again_16 flX10_54 (hF.lt (by decide)) (hF.kc (by decide) rfl) (hF.pt 89 rfl) ?_
  refine ez_iload_n (i := 1) dX10_again_19 rfl rfl ?_
  refine ez_zaN (k := 1) dX10_again_20 (hF.lt (by decide)) (hF.ka (by decide) rfl) (by decide) (by decide) ?_
  refine ez_topE (y := 1) hy92 ?_
  refine ez_if_eq (tgt := 43) dX10_again_21 (by decide) (fun c2 => absurd c2 (by decide)) (fun c2 => ?_)
  refine ez_aload_n (i := 0) dX10_again_24 rfl rfl ?_
  refine ez_getR dX10_again_25 flX10_50 (hF.lt (by decide)) (hF.kc (by decide) rfl) (hF.pt 80 rfl) ?_
  refine ez_iload_n (i := 1) dX10_again_28 rfl rfl ?_
  refine ez_aaN dX10_again_29 (hF.lt (by decide)) (hF.ka (by decide) rfl) (by decide) (by decide) (hF.pt 88 rfl) ?_
  refine ez_getI dX10_again_30 flX10_126 (hF.lt (by decide)) (hF.kc (by decide) rfl) ?_
  refine ez_topE (y := nI q) hq3 ?_
  refine ez_aload_n (i := 0) dX10_again_33 rfl rfl ?_
  refine ez_getR dX10_again_34 flX10_33 (hF.lt (by decide)) (hF.kc (by decide) rfl) (hF.pt 21 rfl) ?_
  refine ez_getI dX10_again_37 flX10_126 (hF.lt (by decide)) (hF.kc (by decide) rfl) ?_
  refine ez_topE (y := nI T.c) hK0.C.sh.cr ?_
  refine ez_icmp_eq (tgt := 45) dX10_again_40 (by decide) (fun c3 => absurd c3 (fun e => absurd (z_nIinj e (by omega) (by omega)) (by omega))) (fun c3 => ?_)
  refine ez_iconst (v := 0) dX10_again_43 (by decide) ?_
  refine ez_iret dX10_again_44 rfl (by decide) ?_
  exact hK0.end
theorem c_keep_no {n : Nat} {sl : Nat × Nat} {kd : Nat → Nat × Nat} {I : Nat → Nat → Int32} {L : Nat → Nat → Int64} {Rf : Nat → Nat → Option Nat} (d : Nat) {T : zT} {H : Nat} (hC : zC n kd I L Rf T) (hO : zOk H T) (hH : H ≤ 1000000000) {v : Int32} (hn : ¬ (0 ≤ v ∧ v ≤ 1)) : zq mX10_keep (d + 60) [.ref 0, .int v] (n, sl, kd, I, L, Rf) (zpC n sl kd I L Rf (some (.int (s_keep T v).1)) (s_keep T v).2) := by
  have hF := hC.F; have hc7 := hO.c
  have hK0 : zK n kd I L Rf I I L Rf T none none false := zK.start hC
  have hsp : s_keep T v = (0, T) := (by unfold s_keep; rw [if_neg hn])
  rw [hsp]
  intro f B
  refine ez_meth pn_X.2.2.2.2.2.2.2.2.2.2.1 (Nat.le_of_ble_eq_true rfl) ?_
  show ez_P _ _ _ _ _ _ 0 [(0, .ref 0), (1, .int v)] [] (n, sl, kd, I, L, Rf) _
  refine ez_iload_n (i := 1) dX10_keep_0 rfl rfl ?_
  refine ez_iconst (v := 0) dX10_keep_1 (by decide) ?_
  refine ez_aload_n (i := 0) dX10_keep_2 rfl rfl ?_
  refine ez_getR dX10_keep_3 flX10_50 (hF.lt (by decide)) (hF.kc (by decide) rfl) (hF.pt 80 rfl) ?_
  refine ez_alen (v := 2) dX10_keep_6 (hF.lt (by decide)) (hF.ka (by decide) rfl) (by decide) (by decide) ?_
  refine ez_iconst (v := 1) dX10_keep_7 (by decide) ?_
  refine ez_isub dX10_keep_8 ?_
  refine ez_topE (y := 1) (by decide) ?_
  refine ez_callS (M1 := mX10_within) (rest := []) dX10_keep_9 mlX10_158 msX10_within rfl (Nat.le_of_ble_eq_true rfl) rfl (zq_b0 hn (zq_b (q_X10_within (d + 59) v 0 1) (n, sl, kd, I, L, Rf))) eb_rok ?_
  rintro _ _ ⟨rfl, rfl⟩
  show ez_P _ _ _ _ _ _ 12 [(0, .ref 0), (1, .int v)] (.int 0 :: []) _ _
  refine ez_if_ne (tgt := 17) dX10_keep_12 (by decide) (fun c1 => absurd c1 (by decide)) (fun c1 => ?_)
  refine ez_iconst (v := 0) dX10_keep_15 (by decide) ?_
  refine ez_iret dX10_keep_16 rfl (by decide) ?_
  exact hK0.end
theorem c_again_no {n : Nat} {sl : Nat × Nat} {kd : Nat → Nat × Nat} {I : Nat → Nat → Int32} {L : Nat → Nat → Int64} {Rf : Nat → Nat → Option Nat} (d : Nat) {T : zT} {H : Nat} (hC : zC n kd I L Rf T) (hO : zOk H T) (hH : H ≤ 1000000000) {v : Int32} (hn : ¬ (0 ≤ v ∧ v ≤ 1)) : zq mX10_again (d + 60) [.ref 0, .int v] (n, sl, kd, I, L, Rf) (zpC n sl kd I L Rf (some (.int (s_again T v).1)) (s_again T v).2) := by
  have hF := hC.F; have hc7 := hO.c
  have hK0 : zK n kd I L Rf I I L Rf T none none false := zK.start hC
  have hsp : s_again T v = (0, T) := (by unfold s_again; rw [if_neg hn])
  rw [hsp]
  intro f B
  refine ez_meth pn_X.2.2.2.2.2.2.2.2.2.2.1 (Nat.le_of_ble_eq_true rfl) ?_
  show ez_P _ _ _ _ _ _ 0 [(0, .ref 0), (1, .int v)] [] (n, sl, kd, I, L, Rf) _
  refine ez_iload_n (i := 1) dX10_again_0 rfl rfl ?_
  refine ez_iconst (v := 0) dX10_again_1 (by decide) ?_
  refine ez_aload_n (i := 0) dX10_again_2 rfl rfl ?_
  refine ez_getR dX10_again_3 flX10_50 (hF.lt (by decide)) (hF.kc (by decide) rfl) (hF.pt 80 rfl) ?_
  refine ez_alen (v := 2) dX10_again_6 (hF.lt (by decide)) (hF.ka (by decide) rfl) (by decide) (by decide) ?_
  refine ez_iconst (v := 1) dX10_again_7 (by decide) ?_
  refine ez_isub dX10_again_8 ?_
  refine ez_topE (y := 1) (by decide) ?_
  refine ez_callS (M1 := mX10_within) (rest := []) dX10_again_9 mlX10_158 msX10_within rfl (Nat.le_of_ble_eq_true rfl) rfl (zq_b0 hn (zq_b (q_X10_within (d + 59) v 0 1) (n, sl, kd, I, L, Rf))) eb_rok ?_
  rintro _ _ ⟨rfl, rfl⟩
  show ez_P _ _ _ _ _ _ 12 [(0, .ref 0), (1, .int v)] (.int 0 :: []) _ _
  refine ez_if_eq (tgt := 43) dX10_again_12 (by decide) (fun c1 => ?_) (fun c1 => absurd (by decide) c1)
  refine ez_iconst (v := 0) dX10_again_43 (by decide) ?_
  refine ez_iret dX10_again_44 rfl (by decide) ?_
  exact hK0.end
theorem c_keep {n : Nat} {sl : Nat × Nat} {kd : Nat → Nat × Nat} {I : Nat → Nat → Int32} {L : Nat → Nat → Int64} {Rf : Nat → Nat → Option Nat} (d : Nat) {T : zT} {H : Nat} (hC : zC n kd I L Rf T) (hO : zOk H T) (hH : H ≤ 1000000000) (v : Int32) : zq mX10_keep (d + 60) [.ref 0, .int v] (n, sl, kd, I, L, Rf) (zpC n sl kd I L Rf (some (.int (s_keep T v).1)) (s_keep T v).2) := by
  by_cases hl : 0 ≤ v ∧ v ≤ 1
  · obtain ⟨k, _, hk, rfl⟩ := z_pk1 (lo := 0) (N := 1) hl (by decide) (by decide)
    rcases (show k = 0 ∨ k = 1 by omega) with rfl | rfl
    · exact c_keep_0 d hC hO hH
    · exact c_keep_1 d hC hO hH
  · exact c_keep_no d hC hO hH hl
theorem c_again {n : Nat} {sl : Nat × Nat} {kd : Nat → Nat × Nat} {I : Nat → Nat → Int32} {L : Nat → Nat → Int64} {Rf : Nat → Nat → Option Nat} (d : Nat) {T : zT} {H : Nat} (hC : zC n kd I L Rf T) (hO : zOk H T) (hH : H ≤ 1000000000) (v : Int32) : zq mX10_again (d + 60) [.ref 0, .int v] (n, sl, kd, I, L, Rf) (zpC n sl kd I L Rf (some (.int (s_again T v).1)) (s_again T v).2) := by
  by_cases hl : 0 ≤ v ∧ v ≤ 1
  · obtain ⟨k, _, hk, rfl⟩ := z_pk1 (lo := 0) (N := 1) hl (by decide) (by decide)
    rcases (show k = 0 ∨ k = 1 by omega) with rfl | rfl
    · cases hy : T.kp 0 with
      | some y => exact c_again_0 d hC hO hH hy
      | none =>
        have h9 := hC.kp 0 (by decide); rw [hy] at h9
        rcases h9 with h9 | ⟨h9, q, hq, h3⟩
        · exact c_again_n00 d hC hO hH hy h9
        · exact c_again_n01 d hC hO hH hy h9 hq h3
    · cases hy : T.kp 1 with
      | some y => exact c_again_1 d hC hO hH hy
      | none =>
        have h9 := hC.kp 1 (by decide); rw [hy] at h9
        rcases h9 with h9 | ⟨h9, q, hq, h3⟩
        · exact c_again_n10 d hC hO hH hy h9
        · exact c_again_n11 d hC hO hH hy h9 hq h3
  · exact c_again_no d hC hO hH hl
theorem k_grav {n : Nat} {sl : Nat × Nat} {kd : Nat → Nat × Nat} {I : Nat → Nat → Int32} {L : Nat → Nat → Int64} {Rf : Nat → Nat → Option Nat} (d : Nat) {T : zT} (hC : zC n kd I L Rf T) (hc7 : T.c ≤ 7) : zq mX7_gravityOfAll d [.ref 21] (n, sl, kd, I, L, Rf) (eb_r (z_sum T.x T.c) (n, sl, kd, I, L, Rf)) := by
  have h := y_X7_gravityOfAll (sl := sl) (I := I) (L := L) d (i := 21) (hC.F.shp (by decide)) (by decide) hC.sh.cr hc7
  rw [z_sum_cg (u := T.x) (fun k hk => hC.sh.g k hk)] at h
  exact h
theorem c_count_0 {n : Nat} {sl : Nat × Nat} {kd : Nat → Nat × Nat} {I : Nat → Nat → Int32} {L : Nat → Nat → Int64} {Rf : Nat → Nat → Option Nat} (d : Nat) {T : zT} {H : Nat} (hC : zC n kd I L Rf T) (hO : zOk H T) (hH : H ≤ 1000000000) : zq mX10_count (d + 60) [.ref 0, .int 0] (n, sl, kd, I, L, Rf) (zpC n sl kd I L Rf (some (.int (s_count T 0).1)) (s_count T 0).2) := by
  have hF := hC.F; have hc7 := hO.c
  have hK0 : zK n kd I L Rf I I L Rf T none none false := zK.start hC
  have hsp : s_count T 0 = (nI T.c, T) := (by unfold s_count; rw [if_pos rfl])
  rw [hsp]
  intro f B
  refine ez_meth pn_X.2.2.2.2.2.2.2.2.2.2.1 (Nat.le_of_ble_eq_true rfl) ?_
  show ez_P _ _ _ _ _ _ 0 [(0, .ref 0), (1, .int 0)] [] (n, sl, kd, I, L, Rf) _
  refine ez_iload_n (i := 1) dX10_count_0 rfl rfl ?_
  refine ez_tin (off := 71) (tgt := 72) dX10_count_1 (by decide) (by decide) rfl (by decide) ?_
  refine ez_aload_n (i := 0) dX10_count_72 rfl rfl ?_
  refine ez_getR dX10_count_73 flX10_33 (hF.lt (by decide)) (hF.kc (by decide) rfl) (hF.pt 21 rfl) ?_
  refine ez_getI dX10_count_76 flX10_126 (hF.lt (by decide)) (hF.kc (by decide) rfl) ?_
  refine ez_topE (y := nI T.c) hK0.C.sh.cr ?_
  refine ez_iret dX10_count_79 rfl rfl ?_
  exact hK0.end
theorem c_count_1 {n : Nat} {sl : Nat × Nat} {kd : Nat → Nat × Nat} {I : Nat → Nat → Int32} {L : Nat → Nat → Int64} {Rf : Nat → Nat → Option Nat} (d : Nat) {T : zT} {H : Nat} (hC : zC n kd I L Rf T) (hO : zOk H T) (hH : H ≤ 1000000000) : zq mX10_count (d + 60) [.ref 0, .int 1] (n, sl, kd, I, L, Rf) (zpC n sl kd I L Rf (some (.int (s_count T 1).1)) (s_count T 1).2) := by
  have hF := hC.F; have hc7 := hO.c
  have hK0 : zK n kd I L Rf I I L Rf T none none false := zK.start hC
  have hsp : s_count T 1 = (T.x 25, T) := (by unfold s_count; rw [if_neg (by decide), if_pos rfl])
  rw [hsp]
  intro f B
  refine ez_meth pn_X.2.2.2.2.2.2.2.2.2.2.1 (Nat.le_of_ble_eq_true rfl) ?_
  show ez_P _ _ _ _ _ _ 0 [(0, .ref 0), (1, .int 1)] [] (n, sl, kd, I, L, Rf) _
  refine ez_iload_n (i := 1) dX10_count_0 rfl rfl ?_
  refine ez_tin (off := 79) (tgt := 80) dX10_count_1 (by decide) (by decide) rfl (by decide) ?_
  refine ez_aload_n (i := 0) dX10_count_80 rfl rfl ?_
  refine ez_getR dX10_count_81 flX10_33 (hF.lt (by decide)) (hF.kc (by decide) rfl) (hF.pt 21 rfl) ?_
  refine ez_getI dX10_count_84 flX10_266 (hF.lt (by decide)) (hF.kc (by decide) rfl) ?_
  refine ez_topE (y := T.x 25) hK0.C.sh.h ?_
  refine ez_iret dX10_count_87 rfl rfl ?_
  exact hK0.end
theorem c_count_2 {n : Nat} {sl : Nat × Nat} {kd : Nat → Nat × Nat} {I : Nat → Nat → Int32} {L : Nat → Nat → Int64} {Rf : Nat → Nat → Option Nat} (d : Nat) {T : zT} {H : Nat} (hC : zC n kd I L Rf T) (hO : zOk H T) (hH : H ≤ 1000000000) : zq mX10_count (d + 60) [.ref 0, .int 2] (n, sl, kd, I, L, Rf) (zpC n sl kd I L Rf (some (.int (s_count T 2).1)) (s_count T 2).2) := by
  have hF := hC.F; have hc7 := hO.c
  have hK0 : zK n kd I L Rf I I L Rf T none none false := zK.start hC
  have hsp : s_count T 2 = (T.x 21, T) := (by unfold s_count; rw [if_neg (by decide), if_neg (by decide), if_pos rfl])
  rw [hsp]
  intro f B
  refine ez_meth pn_X.2.2.2.2.2.2.2.2.2.2.1 (Nat.le_of_ble_eq_true rfl) ?_
  show ez_P _ _ _ _ _ _ 0 [(0, .ref 0), (1, .int 2)] [] (n, sl, kd, I, L, Rf) _
  refine ez_iload_n (i := 1) dX10_count_0 rfl rfl ?_
  refine ez_tin (off := 87) (tgt := 88) dX10_count_1 (by decide) (by decide) rfl (by decide) ?_
  refine ez_aload_n (i := 0) dX10_count_88 rfl rfl ?_
  refine ez_getR dX10_count_89 flX10_33 (hF.lt (by decide)) (hF.kc (by decide) rfl) (hF.pt 21 rfl) ?_
  refine ez_getI dX10_count_92 flX10_272 (hF.lt (by decide)) (hF.kc (by decide) rfl) ?_
  refine ez_topE (y := T.x 21) hK0.C.sh.s ?_
  refine ez_iret dX10_count_95 rfl rfl ?_
  exact hK0.end
theorem c_count_3 {n : Nat} {sl : Nat × Nat} {kd : Nat → Nat × Nat} {I : Nat → Nat → Int32} {L : Nat → Nat → Int64} {Rf : Nat → Nat → Option Nat} (d : Nat) {T : zT} {H : Nat} (hC : zC n kd I L Rf T) (hO : zOk H T) (hH : H ≤ 1000000000) : zq mX10_count (d + 60) [.ref 0, .int 3] (n, sl, kd, I, L, Rf) (zpC n sl kd I L Rf (some (.int (s_count T 3).1)) (s_count T 3).2) := by
  have hF := hC.F; have hc7 := hO.c
  have hK0 : zK n kd I L Rf I I L Rf T none none false := zK.start hC
  have hsp : s_count T 3 = (100 + T.x 22, T) := (by unfold s_count; rw [if_neg (by decide), if_neg (by decide), if_neg (by decide), if_pos rfl])
  rw [hsp]
  intro f B
  refine ez_meth pn_X.2.2.2.2.2.2.2.2.2.2.1 (Nat.le_of_ble_eq_true rfl) ?_
  show ez_P _ _ _ _ _ _ 0 [(0, .ref 0), (1, .int 3)] [] (n, sl, kd, I, L, Rf) _
  refine ez_iload_n (i := 1) dX10_count_0 rfl rfl ?_
  refine ez_tin (off := 95) (tgt := 96) dX10_count_1 (by decide) (by decide) rfl (by decide) ?_
  refine ez_bipush (v := 100) dX10_count_96 (by decide) ?_
  refine ez_aload_n (i := 0) dX10_count_98 rfl rfl ?_
  refine ez_getR dX10_count_99 flX10_33 (hF.lt (by decide)) (hF.kc (by decide) rfl) (hF.pt 21 rfl) ?_
  refine ez_getI dX10_count_102 flX10_208 (hF.lt (by decide)) (hF.kc (by decide) rfl) ?_
  refine ez_topE (y := T.x 22) hK0.C.sh.l ?_
  refine ez_iadd dX10_count_105 ?_
  refine ez_iret dX10_count_106 rfl rfl ?_
  exact hK0.end
theorem c_count_4 {n : Nat} {sl : Nat × Nat} {kd : Nat → Nat × Nat} {I : Nat → Nat → Int32} {L : Nat → Nat → Int64} {Rf : Nat → Nat → Option Nat} (d : Nat) {T : zT} {H : Nat} (hC : zC n kd I L Rf T) (hO : zOk H T) (hH : H ≤ 1000000000) : zq mX10_count (d + 60) [.ref 0, .int 4] (n, sl, kd, I, L, Rf) (zpC n sl kd I L Rf (some (.int (s_count T 4).1)) (s_count T 4).2) := by
  have hF := hC.F; have hc7 := hO.c
  have hK0 : zK n kd I L Rf I I L Rf T none none false := zK.start hC
  have hsp : s_count T 4 = (T.x 23, T) := (by unfold s_count; rw [if_neg (by decide), if_neg (by decide), if_neg (by decide), if_neg (by decide), if_pos rfl])
  rw [hsp]
  intro f B
  refine ez_meth pn_X.2.2.2.2.2.2.2.2.2.2.1 (Nat.le_of_ble_eq_true rfl) ?_
  show ez_P _ _ _ _ _ _ 0 [(0, .ref 0), (1, .int 4)] [] (n, sl, kd, I, L, Rf) _
  refine ez_iload_n (i := 1) dX10_count_0 rfl rfl ?_
  refine ez_tin (off := 106) (tgt := 107) dX10_count_1 (by decide) (by decide) rfl (by decide) ?_
  refine ez_aload_n (i := 0) dX10_count_107 rfl rfl ?_
  refine ez_getR dX10_count_108 flX10_33 (hF.lt (by decide)) (hF.kc (by decide) rfl) (hF.pt 21 rfl) ?_
  refine ez_getI dX10_count_111 flX10_201 (hF.lt (by decide)) (hF.kc (by decide) rfl) ?_
  refine ez_topE (y := T.x 23) hK0.C.sh.lg ?_
  refine ez_iret dX10_count_114 rfl rfl ?_
  exact hK0.end
theorem c_count_5 {n : Nat} {sl : Nat × Nat} {kd : Nat → Nat × Nat} {I : Nat → Nat → Int32} {L : Nat → Nat → Int64} {Rf : Nat → Nat → Option Nat} (d : Nat) {T : zT} {H : Nat} (hC : zC n kd I L Rf T) (hO : zOk H T) (hH : H ≤ 1000000000) : zq mX10_count (d + 60) [.ref 0, .int 5] (n, sl, kd, I, L, Rf) (zpC n sl kd I L Rf (some (.int (s_count T 5).1)) (s_count T 5).2) := by
  have hF := hC.F; have hc7 := hO.c
  have hK0 : zK n kd I L Rf I I L Rf T none none false := zK.start hC
  have hsp : s_count T 5 = (T.x 24, T) := (by unfold s_count; rw [if_neg (by decide), if_neg (by decide), if_neg (by decide), if_neg (by decide), if_neg (by decide), if_pos rfl])
  rw [hsp]
  intro f B
  refine ez_meth pn_X.2.2.2.2.2.2.2.2.2.2.1 (Nat.le_of_ble_eq_true rfl) ?_
  show ez_P _ _ _ _ _ _ 0 [(0, .ref 0), (1, .int 5)] [] (n, sl, kd, I, L, Rf) _
  refine ez_iload_n (i := 1) dX10_count_0 rfl rfl ?_
  refine ez_tin (off := 114) (tgt := 115) dX10_count_1 (by decide) (by decide) rfl (by decide) ?_
  refine ez_aload_n (i := 0) dX10_count_115 rfl rfl ?_
  refine ez_getR dX10_count_116 flX10_33 (hF.lt (by decide)) (hF.kc (by decide) rfl) (hF.pt 21 rfl) ?_
  refine ez_getI dX10_count_119 flX10_416 (hF.lt (by decide)) (hF.kc (by decide) rfl) ?_
  refine ez_topE (y := T.x 24) hK0.C.sh.ov ?_
  refine ez_iret dX10_count_122 rfl rfl ?_
  exact hK0.end
theorem c_count_6 {n : Nat} {sl : Nat × Nat} {kd : Nat → Nat × Nat} {I : Nat → Nat → Int32} {L : Nat → Nat → Int64} {Rf : Nat → Nat → Option Nat} (d : Nat) {T : zT} {H : Nat} (hC : zC n kd I L Rf T) (hO : zOk H T) (hH : H ≤ 1000000000) : zq mX10_count (d + 60) [.ref 0, .int 6] (n, sl, kd, I, L, Rf) (zpC n sl kd I L Rf (some (.int (s_count T 6).1)) (s_count T 6).2) := by
  have hF := hC.F; have hc7 := hO.c
  have hK0 : zK n kd I L Rf I I L Rf T none none false := zK.start hC
  have hsp : s_count T 6 = (10 + zhw T T.x, T) := (by unfold s_count; rw [if_neg (by decide), if_neg (by decide), if_neg (by decide), if_neg (by decide), if_neg (by decide), if_neg (by decide), if_pos rfl])
  rw [hsp]
  intro f B
  refine ez_meth pn_X.2.2.2.2.2.2.2.2.2.2.1 (Nat.le_of_ble_eq_true rfl) ?_
  show ez_P _ _ _ _ _ _ 0 [(0, .ref 0), (1, .int 6)] [] (n, sl, kd, I, L, Rf) _
  refine ez_iload_n (i := 1) dX10_count_0 rfl rfl ?_
  refine ez_tin (off := 122) (tgt := 123) dX10_count_1 (by decide) (by decide) rfl (by decide) ?_
  refine ez_bipush (v := 10) dX10_count_123 (by decide) ?_
  refine ez_aload_n (i := 0) dX10_count_125 rfl rfl ?_
  refine ez_getR dX10_count_126 flX10_26 (hF.lt (by decide)) (hF.kc (by decide) rfl) (hF.pt 4 rfl) ?_
  refine ez_aload_n (i := 0) dX10_count_129 rfl rfl ?_
  refine ez_getR dX10_count_130 flX10_33 (hF.lt (by decide)) (hF.kc (by decide) rfl) (hF.pt 21 rfl) ?_
  refine ez_getI dX10_count_133 flX10_266 (hF.lt (by decide)) (hF.kc (by decide) rfl) ?_
  refine ez_topE (y := T.x 25) hK0.C.sh.h ?_
  refine ez_callV (M1 := mX6_windAt) (rest := [.int 10]) dX10_count_136 mlX10_269 mvX6_windAt rfl (hF.lt (by decide)) (hF.kc (by decide) rfl) (Nat.le_of_ble_eq_true rfl) rfl (k_wind (T := T) (I := I) (L := L) (d + 59) hK0.C hO (x := T.x) hO.x (by omega)) eb_rok ?_
  rintro _ _ ⟨rfl, rfl⟩
  show ez_P _ _ _ _ _ _ 139 [(0, .ref 0), (1, .int 6)] (.int (zhw T T.x) :: [.int 10]) _ _
  refine ez_iadd dX10_count_139 ?_
  refine ez_iret dX10_count_140 rfl rfl ?_
  exact hK0.end
theorem c_count_7 {n : Nat} {sl : Nat × Nat} {kd : Nat → Nat × Nat} {I : Nat → Nat → Int32} {L : Nat → Nat → Int64} {Rf : Nat → Nat → Option Nat} (d : Nat) {T : zT} {H : Nat} (hC : zC n kd I L Rf T) (hO : zOk H T) (hH : H ≤ 1000000000) : zq mX10_count (d + 60) [.ref 0, .int 7] (n, sl, kd, I, L, Rf) (zpC n sl kd I L Rf (some (.int (s_count T 7).1)) (s_count T 7).2) := by
  have hF := hC.F; have hc7 := hO.c
  have hK0 : zK n kd I L Rf I I L Rf T none none false := zK.start hC
  have hsp : s_count T 7 = (z_sum T.x T.c, T) := (by unfold s_count; rw [if_neg (by decide), if_neg (by decide), if_neg (by decide), if_neg (by decide), if_neg (by decide), if_neg (by decide), if_neg (by decide), if_pos rfl])
  rw [hsp]
  intro f B
  refine ez_meth pn_X.2.2.2.2.2.2.2.2.2.2.1 (Nat.le_of_ble_eq_true rfl) ?_
  show ez_P _ _ _ _ _ _ 0 [(0, .ref 0), (1, .int 7)] [] (n, sl, kd, I, L, Rf) _
  refine ez_iload_n (i := 1) dX10_count_0 rfl rfl ?_
  refine ez_tin (off := 140) (tgt := 141) dX10_count_1 (by decide) (by decide) rfl (by decide) ?_
  refine ez_aload_n (i := 0) dX10_count_141 rfl rfl ?_
  refine ez_getR dX10_count_142 flX10_33 (hF.lt (by decide)) (hF.kc (by decide) rfl) (hF.pt 21 rfl) ?_
  refine ez_callV (M1 := mX7_gravityOfAll) (rest := []) dX10_count_145 mlX10_185 mvX7_gravityOfAll rfl (hF.lt (by decide)) (hF.kc (by decide) rfl) (Nat.le_of_ble_eq_true rfl) rfl (k_grav (I := I) (L := L) (d + 59) hK0.C hc7) eb_rok ?_
  rintro _ _ ⟨rfl, rfl⟩
  show ez_P _ _ _ _ _ _ 148 [(0, .ref 0), (1, .int 7)] (.int (z_sum T.x T.c) :: []) _ _
  refine ez_iret dX10_count_148 rfl rfl ?_
  exact hK0.end
theorem c_count_8 {n : Nat} {sl : Nat × Nat} {kd : Nat → Nat × Nat} {I : Nat → Nat → Int32} {L : Nat → Nat → Int64} {Rf : Nat → Nat → Option Nat} (d : Nat) {T : zT} {H : Nat} (hC : zC n kd I L Rf T) (hO : zOk H T) (hH : H ≤ 1000000000) : zq mX10_count (d + 60) [.ref 0, .int 8] (n, sl, kd, I, L, Rf) (zpC n sl kd I L Rf (some (.int (s_count T 8).1)) (s_count T 8).2) := by
  have hF := hC.F; have hc7 := hO.c
  have hK0 : zK n kd I L Rf I I L Rf T none none false := zK.start hC
  have hsp : s_count T 8 = (zws T (zal T) T.c, T) := (by unfold s_count; rw [if_neg (by decide), if_neg (by decide), if_neg (by decide), if_neg (by decide), if_neg (by decide), if_neg (by decide), if_neg (by decide), if_neg (by decide), if_pos rfl])
  rw [hsp]
  intro f B
  refine ez_meth pn_X.2.2.2.2.2.2.2.2.2.2.1 (Nat.le_of_ble_eq_true rfl) ?_
  show ez_P _ _ _ _ _ _ 0 [(0, .ref 0), (1, .int 8)] [] (n, sl, kd, I, L, Rf) _
  refine ez_iload_n (i := 1) dX10_count_0 rfl rfl ?_
  refine ez_tin (off := 148) (tgt := 149) dX10_count_1 (by decide) (by decide) rfl (by decide) ?_
  refine ez_aload_n (i := 0) dX10_count_149 rfl rfl ?_
  refine ez_callV (M1 := mX10_weighAll) (rest := []) dX10_count_150 mlX10_263 mvX10_weighAll rfl (hF.lt (by decide)) (hF.kc (by decide) rfl) (Nat.le_of_ble_eq_true rfl) rfl (k_weighAll (T := T) (I := I) (L := L) (d + 39) hK0.C hO hH) k_wo_ok ?_
  rintro _ _ ⟨rfl, I1, rfl, hl2, hn3⟩
  show ez_P _ _ _ _ _ _ 153 [(0, .ref 0), (1, .int 8)] [] (n, sl, kd, I1, L, Rf) _
  have hK4 : zK n kd I L Rf I I1 L Rf T none none true := by exact hK0.lod hl2 hn3
  refine ez_aload_n (i := 0) dX10_count_153 rfl rfl ?_
  refine ez_iconst (v := 1) dX10_count_154 (by decide) ?_
  refine ez_aload_n (i := 0) dX10_count_155 rfl rfl ?_
  refine ez_getR dX10_count_156 flX10_33 (hF.lt (by decide)) (hF.kc (by decide) rfl) (hF.pt 21 rfl) ?_
  refine ez_getI dX10_count_159 flX10_126 (hF.lt (by decide)) (hF.kc (by decide) rfl) ?_
  refine ez_topE (y := nI T.c) hK4.C.sh.cr ?_
  refine ez_ishl dX10_count_162 ?_
  refine ez_iconst (v := 1) dX10_count_163 (by decide) ?_
  refine ez_isub dX10_count_164 ?_
  refine ez_topE (y := zal T) (zal_k _ (by omega)) ?_
  refine ez_callV (M1 := mX10_loadOf) (rest := []) dX10_count_165 mlX10_327 mvX10_loadOf rfl (hF.lt (by decide)) (hF.kc (by decide) rfl) (Nat.le_of_ble_eq_true rfl) rfl (k_lof (T := T) (I := I1) (L := L) (d + 39) hK4 hO (zal T)) eb_rok ?_
  rintro _ _ ⟨rfl, rfl⟩
  show ez_P _ _ _ _ _ _ 168 [(0, .ref 0), (1, .int 8)] (.int (zws T (zal T) T.c) :: []) _ _
  refine ez_iret dX10_count_168 rfl rfl ?_
  exact hK4.end
theorem c_count_9 {n : Nat} {sl : Nat × Nat} {kd : Nat → Nat × Nat} {I : Nat → Nat → Int32} {L : Nat → Nat → Int64} {Rf : Nat → Nat → Option Nat} (d : Nat) {T : zT} {H : Nat} (hC : zC n kd I L Rf T) (hO : zOk H T) (hH : H ≤ 1000000000) : zq mX10_count (d + 60) [.ref 0, .int 9] (n, sl, kd, I, L, Rf) (zpC n sl kd I L Rf (some (.int (s_count T 9).1)) (s_count T 9).2) := by
  have hF := hC.F; have hc7 := hO.c
  have hK0 : zK n kd I L Rf I I L Rf T none none false := zK.start hC
  have hsp : s_count T 9 = (nI T.sn.length, T) := (by unfold s_count; rw [if_neg (by decide), if_neg (by decide), if_neg (by decide), if_neg (by decide), if_neg (by decide), if_neg (by decide), if_neg (by decide), if_neg (by decide), if_neg (by decide), if_pos rfl])
  rw [hsp]
  intro f B
  refine ez_meth pn_X.2.2.2.2.2.2.2.2.2.2.1 (Nat.le_of_ble_eq_true rfl) ?_
  show ez_P _ _ _ _ _ _ 0 [(0, .ref 0), (1, .int 9)] [] (n, sl, kd, I, L, Rf) _
  refine ez_iload_n (i := 1) dX10_count_0 rfl rfl ?_
  refine ez_tin (off := 168) (tgt := 169) dX10_count_1 (by decide) (by decide) rfl (by decide) ?_
  refine ez_aload_n (i := 0) dX10_count_169 rfl rfl ?_
  refine ez_getR dX10_count_170 flX10_63 (hF.lt (by decide)) (hF.kc (by decide) rfl) (hF.pt 90 rfl) ?_
  refine ez_getI dX10_count_173 flX10_351 (hF.lt (by decide)) (hF.kc (by decide) rfl) ?_
  refine ez_topE (y := nI T.sn.length) hK0.C.sn.1 ?_
  refine ez_iret dX10_count_176 rfl rfl ?_
  exact hK0.end
theorem c_count_10 {n : Nat} {sl : Nat × Nat} {kd : Nat → Nat × Nat} {I : Nat → Nat → Int32} {L : Nat → Nat → Int64} {Rf : Nat → Nat → Option Nat} (d : Nat) {T : zT} {H : Nat} (hC : zC n kd I L Rf T) (hO : zOk H T) (hH : H ≤ 1000000000) : zq mX10_count (d + 60) [.ref 0, .int 10] (n, sl, kd, I, L, Rf) (zpC n sl kd I L Rf (some (.int (s_count T 10).1)) (s_count T 10).2) := by
  have hF := hC.F; have hc7 := hO.c
  have hK0 : zK n kd I L Rf I I L Rf T none none false := zK.start hC
  have hsp : s_count T 10 = (nI T.hd.length, T) := (by unfold s_count; rw [if_neg (by decide), if_neg (by decide), if_neg (by decide), if_neg (by decide), if_neg (by decide), if_neg (by decide), if_neg (by decide), if_neg (by decide), if_neg (by decide), if_neg (by decide), if_pos rfl])
  rw [hsp]
  intro f B
  refine ez_meth pn_X.2.2.2.2.2.2.2.2.2.2.1 (Nat.le_of_ble_eq_true rfl) ?_
  show ez_P _ _ _ _ _ _ 0 [(0, .ref 0), (1, .int 10)] [] (n, sl, kd, I, L, Rf) _
  refine ez_iload_n (i := 1) dX10_count_0 rfl rfl ?_
  refine ez_tin (off := 176) (tgt := 177) dX10_count_1 (by decide) (by decide) rfl (by decide) ?_
  refine ez_aload_n (i := 0) dX10_count_177 rfl rfl ?_
  refine ez_getR dX10_count_178 flX10_67 (hF.lt (by decide)) (hF.kc (by decide) rfl) (hF.pt 94 rfl) ?_
  refine ez_getI dX10_count_181 flX10_351 (hF.lt (by decide)) (hF.kc (by decide) rfl) ?_
  refine ez_topE (y := nI T.hd.length) hK0.C.hd.1 ?_
  refine ez_iret dX10_count_184 rfl rfl ?_
  exact hK0.end
theorem c_count_11 {n : Nat} {sl : Nat × Nat} {kd : Nat → Nat × Nat} {I : Nat → Nat → Int32} {L : Nat → Nat → Int64} {Rf : Nat → Nat → Option Nat} (d : Nat) {T : zT} {H : Nat} (hC : zC n kd I L Rf T) (hO : zOk H T) (hH : H ≤ 1000000000) : zq mX10_count (d + 60) [.ref 0, .int 11] (n, sl, kd, I, L, Rf) (zpC n sl kd I L Rf (some (.int (s_count T 11).1)) (s_count T 11).2) := by
  have hF := hC.F; have hc7 := hO.c
  have hK0 : zK n kd I L Rf I I L Rf T none none false := zK.start hC
  have hsp : s_count T 11 = (nI T.un.length, T) := (by unfold s_count; rw [if_neg (by decide), if_neg (by decide), if_neg (by decide), if_neg (by decide), if_neg (by decide), if_neg (by decide), if_neg (by decide), if_neg (by decide), if_neg (by decide), if_neg (by decide), if_neg (by decide), if_pos rfl])
  rw [hsp]
  intro f B
  refine ez_meth pn_X.2.2.2.2.2.2.2.2.2.2.1 (Nat.le_of_ble_eq_true rfl) ?_
  show ez_P _ _ _ _ _ _ 0 [(0, .ref 0), (1, .int 11)] [] (n, sl, kd, I, L, Rf) _
  refine ez_iload_n (i := 1) dX10_count_0 rfl rfl ?_
  refine ez_tin (off := 184) (tgt := 185) dX10_count_1 (by decide) (by decide) rfl (by decide) ?_
  refine ez_aload_n (i := 0) dX10_count_185 rfl rfl ?_
  refine ez_getR dX10_count_186 flX10_46 (hF.lt (by decide)) (hF.kc (by decide) rfl) (hF.pt 30 rfl) ?_
  refine ez_getI dX10_count_189 flX10_256 (hF.lt (by decide)) (hF.kc (by decide) rfl) ?_
  refine ez_topE (y := nI T.un.length) hK0.C.unl ?_
  refine ez_iret dX10_count_192 rfl rfl ?_
  exact hK0.end
theorem c_count_12 {n : Nat} {sl : Nat × Nat} {kd : Nat → Nat × Nat} {I : Nat → Nat → Int32} {L : Nat → Nat → Int64} {Rf : Nat → Nat → Option Nat} (d : Nat) {T : zT} {H : Nat} (hC : zC n kd I L Rf T) (hO : zOk H T) (hH : H ≤ 1000000000) : zq mX10_count (d + 60) [.ref 0, .int 12] (n, sl, kd, I, L, Rf) (zpC n sl kd I L Rf (some (.int (s_count T 12).1)) (s_count T 12).2) := by
  have hF := hC.F; have hc7 := hO.c
  have hK0 : zK n kd I L Rf I I L Rf T none none false := zK.start hC
  have hsp : s_count T 12 = (nI T.rw.length, T) := (by unfold s_count; rw [if_neg (by decide), if_neg (by decide), if_neg (by decide), if_neg (by decide), if_neg (by decide), if_neg (by decide), if_neg (by decide), if_neg (by decide), if_neg (by decide), if_neg (by decide), if_neg (by decide), if_neg (by decide), if_pos rfl])
  rw [hsp]
  intro f B
  refine ez_meth pn_X.2.2.2.2.2.2.2.2.2.2.1 (Nat.le_of_ble_eq_true rfl) ?_
  show ez_P _ _ _ _ _ _ 0 [(0, .ref 0), (1, .int 12)] [] (n, sl, kd, I, L, Rf) _
  refine ez_iload_n (i := 1) dX10_count_0 rfl rfl ?_
  refine ez_tin (off := 192) (tgt := 193) dX10_count_1 (by decide) (by decide) rfl (by decide) ?_
  refine ez_aload_n (i := 0) dX10_count_193 rfl rfl ?_
  refine ez_getR dX10_count_194 flX10_19 (hF.lt (by decide)) (hF.kc (by decide) rfl) (hF.pt 3 rfl) ?_
  refine ez_getI dX10_count_197 flX10_419 (hF.lt (by decide)) (hF.kc (by decide) rfl) ?_
  refine ez_topE (y := nI T.rw.length) hK0.C.rw.1 ?_
  refine ez_iret dX10_count_200 rfl rfl ?_
  exact hK0.end
theorem c_count_13 {n : Nat} {sl : Nat × Nat} {kd : Nat → Nat × Nat} {I : Nat → Nat → Int32} {L : Nat → Nat → Int64} {Rf : Nat → Nat → Option Nat} (d : Nat) {T : zT} {H : Nat} (hC : zC n kd I L Rf T) (hO : zOk H T) (hH : H ≤ 1000000000) : zq mX10_count (d + 60) [.ref 0, .int 13] (n, sl, kd, I, L, Rf) (zpC n sl kd I L Rf (some (.int (s_count T 13).1)) (s_count T 13).2) := by
  have hF := hC.F; have hc7 := hO.c
  have hK0 : zK n kd I L Rf I I L Rf T none none false := zK.start hC
  have hsp : s_count T 13 = (nI T.tx.length, T) := (by unfold s_count; rw [if_neg (by decide), if_neg (by decide), if_neg (by decide), if_neg (by decide), if_neg (by decide), if_neg (by decide), if_neg (by decide), if_neg (by decide), if_neg (by decide), if_neg (by decide), if_neg (by decide), if_neg (by decide), if_neg (by decide), if_pos rfl])
  rw [hsp]
  intro f B
  refine ez_meth pn_X.2.2.2.2.2.2.2.2.2.2.1 (Nat.le_of_ble_eq_true rfl) ?_
  show ez_P _ _ _ _ _ _ 0 [(0, .ref 0), (1, .int 13)] [] (n, sl, kd, I, L, Rf) _
  refine ez_iload_n (i := 1) dX10_count_0 rfl rfl ?_
  refine ez_tin (off := 200) (tgt := 201) dX10_count_1 (by decide) (by decide) rfl (by decide) ?_
  refine ez_aload_n (i := 0) dX10_count_201 rfl rfl ?_
  refine ez_getR dX10_count_202 flX10_10 (hF.lt (by decide)) (hF.kc (by decide) rfl) (hF.pt 1 rfl) ?_
  refine ez_getI dX10_count_205 flX10_108 (hF.lt (by decide)) (hF.kc (by decide) rfl) ?_
  refine ez_topE (y := nI T.tx.length) hK0.C.tx.1 ?_
  refine ez_iret dX10_count_208 rfl rfl ?_
  exact hK0.end
theorem c_count_no {n : Nat} {sl : Nat × Nat} {kd : Nat → Nat × Nat} {I : Nat → Nat → Int32} {L : Nat → Nat → Int64} {Rf : Nat → Nat → Option Nat} (d : Nat) {T : zT} {H : Nat} (hC : zC n kd I L Rf T) (hO : zOk H T) (hH : H ≤ 1000000000) {v : Int32} (hn : ¬ (0 ≤ v ∧ v ≤ 13)) : zq mX10_count (d + 60) [.ref 0, .int v] (n, sl, kd, I, L, Rf) (zpC n sl kd I L Rf (some (.int (s_count T v).1)) (s_count T v).2) := by
  have hF := hC.F; have hc7 := hO.c
  have hK0 : zK n kd I L Rf I I L Rf T none none false := zK.start hC
  have hsp : s_count T v = (-1, T) := (by unfold s_count; rw [if_neg (fun e => hn (by rw [e]; decide)), if_neg (fun e => hn (by rw [e]; decide)), if_neg (fun e => hn (by rw [e]; decide)), if_neg (fun e => hn (by rw [e]; decide)), if_neg (fun e => hn (by rw [e]; decide)), if_neg (fun e => hn (by rw [e]; decide)), if_neg (fun e => hn (by rw [e]; decide)), if_neg (fun e => hn (by rw [e]; decide)), if_neg (fun e => hn (by rw [e]; decide)), if_neg (fun e => hn (by rw [e]; decide)), if_neg (fun e => hn (by rw [e]; decide)), if_neg (fun e => hn (by rw [e]; decide)), if_neg (fun e => hn (by rw [e]; decide)), if_neg (fun e => hn (by rw [e]; decide))])
  rw [hsp]
  intro f B
  refine ez_meth pn_X.2.2.2.2.2.2.2.2.2.2.1 (Nat.le_of_ble_eq_true rfl) ?_
  have ho : v.toInt < 0 ∨ 13 < v.toInt := by
    have h1 := hn; simp only [Int32.le_iff_toInt_le] at h1
    rw [show (0 : Int32).toInt = 0 from rfl, show (13 : Int32).toInt = 13 from rfl] at h1
    omega
  show ez_P _ _ _ _ _ _ 0 [(0, .ref 0), (1, .int v)] [] (n, sl, kd, I, L, Rf) _
  refine ez_iload_n (i := 1) dX10_count_0 rfl rfl ?_
  refine ez_tout (tgt := 209) dX10_count_1 ho (by decide) ?_
  refine ez_iconst (v := (-1)) dX10_count_209 (by decide) ?_
  refine ez_iret dX10_count_210 rfl rfl ?_
  exact hK0.end
theorem c_count {n : Nat} {sl : Nat × Nat} {kd : Nat → Nat × Nat} {I : Nat → Nat → Int32} {L : Nat → Nat → Int64} {Rf : Nat → Nat → Option Nat} (d : Nat) {T : zT} {H : Nat} (hC : zC n kd I L Rf T) (hO : zOk H T) (hH : H ≤ 1000000000) (v : Int32) : zq mX10_count (d + 60) [.ref 0, .int v] (n, sl, kd, I, L, Rf) (zpC n sl kd I L Rf (some (.int (s_count T v).1)) (s_count T v).2) := by
  by_cases hl : 0 ≤ v ∧ v ≤ 13
  · obtain ⟨q, _, hq, rfl⟩ := z_pk1 (lo := 0) (N := 13) hl (by decide) (by decide)
    rcases (show q = 0 ∨ q = 1 ∨ q = 2 ∨ q = 3 ∨ q = 4 ∨ q = 5 ∨ q = 6 ∨ q = 7 ∨ q = 8 ∨ q = 9 ∨ q = 10 ∨ q = 11 ∨ q = 12 ∨ q = 13 by omega) with rfl | rfl | rfl | rfl | rfl | rfl | rfl | rfl | rfl | rfl | rfl | rfl | rfl | rfl
    · exact c_count_0 d hC hO hH
    · exact c_count_1 d hC hO hH
    · exact c_count_2 d hC hO hH
    · exact c_count_3 d hC hO hH
    · exact c_count_4 d hC hO hH
    · exact c_count_5 d hC hO hH
    · exact c_count_6 d hC hO hH
    · exact c_count_7 d hC hO hH
    · exact c_count_8 d hC hO hH
    · exact c_count_9 d hC hO hH
    · exact c_count_10 d hC hO hH
    · exact c_count_11 d hC hO hH
    · exact c_count_12 d hC hO hH
    · exact c_count_13 d hC hO hH
  · exact c_count_no d hC hO hH hl
theorem c_brother_0 {n : Nat} {sl : Nat × Nat} {kd : Nat → Nat × Nat} {I : Nat → Nat → Int32} {L : Nat → Nat → Int64} {Rf : Nat → Nat → Option Nat} (d : Nat) {T : zT} {H : Nat} (hC : zC n kd I L Rf T) (hO : zOk H T) (hH : H ≤ 1000000000) {b0 : Nat} (hb : b0 < T.c) : zq mX10_brother (d + 60) [.ref 0, .int (nI b0), .int 0] (n, sl, kd, I, L, Rf) (zpC n sl kd I L Rf (some (.int (v_brother T b0 0))) T) := by
  have hF := hC.F; have hc7 := hO.c
  have hK0 : zK n kd I L Rf I I L Rf T none none false := zK.start hC
  intro f B
  refine ez_meth pn_X.2.2.2.2.2.2.2.2.2.2.1 (Nat.le_of_ble_eq_true rfl) ?_
  show ez_P _ _ _ _ _ _ 0 [(0, .ref 0), (1, .int (nI b0)), (2, .int 0)] [] (n, sl, kd, I, L, Rf) _
  refine ez_aload_n (i := 0) dX10_brother_0 rfl rfl ?_
  refine ez_getR dX10_brother_1 flX10_33 (hF.lt (by decide)) (hF.kc (by decide) rfl) (hF.pt 21 rfl) ?_
  refine ez_iload_n (i := 1) dX10_brother_4 rfl rfl ?_
  refine ez_callV (M1 := mX7_has) (rest := []) dX10_brother_5 mlX10_155 mvX7_has rfl (hF.lt (by decide)) (hF.kc (by decide) rfl) (Nat.le_of_ble_eq_true rfl) rfl (zq_b1 (z_bin hb hO.c) (k_has (I := I) (L := L) (d + 59) hK0.C (nI b0))) eb_rok ?_
  rintro _ _ ⟨rfl, rfl⟩
  show ez_P _ _ _ _ _ _ 8 [(0, .ref 0), (1, .int (nI b0)), (2, .int 0)] (.int 1 :: []) _ _
  refine ez_if_eq (tgt := 20) dX10_brother_8 (by decide) (fun c1 => absurd c1 (by decide)) (fun c1 => ?_)
  refine ez_iload_n (i := 2) dX10_brother_11 rfl rfl ?_
  refine ez_iconst (v := 0) dX10_brother_12 (by decide) ?_
  refine ez_iconst (v := 3) dX10_brother_13 (by decide) ?_
  refine ez_callS (M1 := mX10_within) (rest := []) dX10_brother_14 mlX10_158 msX10_within rfl (Nat.le_of_ble_eq_true rfl) rfl (zq_b1 (by decide) (zq_b (q_X10_within (d + 59) 0 0 3) (n, sl, kd, I, L, Rf))) eb_rok ?_
  rintro _ _ ⟨rfl, rfl⟩
  show ez_P _ _ _ _ _ _ 17 [(0, .ref 0), (1, .int (nI b0)), (2, .int 0)] (.int 1 :: []) _ _
  refine ez_if_ne (tgt := 28) dX10_brother_17 (by decide) (fun c2 => ?_) (fun c2 => absurd (by decide) c2)
  refine ez_iload_n (i := 2) dX10_brother_28 rfl rfl ?_
  refine ez_tin (off := 27) (tgt := 56) dX10_brother_29 (by decide) (by decide) rfl (by decide) ?_
  refine ez_aload_n (i := 0) dX10_brother_56 rfl rfl ?_
  refine ez_getR dX10_brother_57 flX10_33 (hF.lt (by decide)) (hF.kc (by decide) rfl) (hF.pt 21 rfl) ?_
  refine ez_getR dX10_brother_60 flX10_165 (hF.lt (by decide)) (hF.kc (by decide) rfl) (hF.pt 18 rfl) ?_
  refine ez_iload_n (i := 1) dX10_brother_63 rfl rfl ?_
  refine ez_iaN (k := b0) dX10_brother_64 (hF.lt (by decide)) (hF.ka (by decide) rfl) (by omega) (by decide) ?_
  refine ez_topE (y := T.x b0) (hK0.C.sh.g _ (by omega)) ?_
  refine ez_iret dX10_brother_65 rfl rfl ?_
  exact hK0.end
theorem c_brother_1 {n : Nat} {sl : Nat × Nat} {kd : Nat → Nat × Nat} {I : Nat → Nat → Int32} {L : Nat → Nat → Int64} {Rf : Nat → Nat → Option Nat} (d : Nat) {T : zT} {H : Nat} (hC : zC n kd I L Rf T) (hO : zOk H T) (hH : H ≤ 1000000000) {b0 : Nat} (hb : b0 < T.c) : zq mX10_brother (d + 60) [.ref 0, .int (nI b0), .int 1] (n, sl, kd, I, L, Rf) (zpC n sl kd I L Rf (some (.int (v_brother T b0 1))) T) := by
  have hF := hC.F; have hc7 := hO.c
  have hK0 : zK n kd I L Rf I I L Rf T none none false := zK.start hC
  intro f B
  refine ez_meth pn_X.2.2.2.2.2.2.2.2.2.2.1 (Nat.le_of_ble_eq_true rfl) ?_
  show ez_P _ _ _ _ _ _ 0 [(0, .ref 0), (1, .int (nI b0)), (2, .int 1)] [] (n, sl, kd, I, L, Rf) _
  refine ez_aload_n (i := 0) dX10_brother_0 rfl rfl ?_
  refine ez_getR dX10_brother_1 flX10_33 (hF.lt (by decide)) (hF.kc (by decide) rfl) (hF.pt 21 rfl) ?_
  refine ez_iload_n (i := 1) dX10_brother_4 rfl rfl ?_
  refine ez_callV (M1 := mX7_has) (rest := []) dX10_brother_5 mlX10_155 mvX7_has rfl (hF.lt (by decide)) (hF.kc (by decide) rfl) (Nat.le_of_ble_eq_true rfl) rfl (zq_b1 (z_bin hb hO.c) (k_has (I := I) (L := L) (d + 59) hK0.C (nI b0))) eb_rok ?_
  rintro _ _ ⟨rfl, rfl⟩
  show ez_P _ _ _ _ _ _ 8 [(0, .ref 0), (1, .int (nI b0)), (2, .int 1)] (.int 1 :: []) _ _
  refine ez_if_eq (tgt := 20) dX10_brother_8 (by decide) (fun c1 => absurd c1 (by decide)) (fun c1 => ?_)
  refine ez_iload_n (i := 2) dX10_brother_11 rfl rfl ?_
  refine ez_iconst (v := 0) dX10_brother_12 (by decide) ?_
  refine ez_iconst (v := 3) dX10_brother_13 (by decide) ?_
  refine ez_callS (M1 := mX10_within) (rest := []) dX10_brother_14 mlX10_158 msX10_within rfl (Nat.le_of_ble_eq_true rfl) rfl (zq_b1 (by decide) (zq_b (q_X10_within (d + 59) 1 0 3) (n, sl, kd, I, L, Rf))) eb_rok ?_
  rintro _ _ ⟨rfl, rfl⟩
  show ez_P _ _ _ _ _ _ 17 [(0, .ref 0), (1, .int (nI b0)), (2, .int 1)] (.int 1 :: []) _ _
  refine ez_if_ne (tgt := 28) dX10_brother_17 (by decide) (fun c2 => ?_) (fun c2 => absurd (by decide) c2)
  refine ez_iload_n (i := 2) dX10_brother_28 rfl rfl ?_
  refine ez_tin (off := 37) (tgt := 66) dX10_brother_29 (by decide) (by decide) rfl (by decide) ?_
  refine ez_aload_n (i := 0) dX10_brother_66 rfl rfl ?_
  refine ez_getR dX10_brother_67 flX10_33 (hF.lt (by decide)) (hF.kc (by decide) rfl) (hF.pt 21 rfl) ?_
  refine ez_getR dX10_brother_70 flX10_168 (hF.lt (by decide)) (hF.kc (by decide) rfl) (hF.pt 19 rfl) ?_
  refine ez_iload_n (i := 1) dX10_brother_73 rfl rfl ?_
  refine ez_iaN (k := b0) dX10_brother_74 (hF.lt (by decide)) (hF.ka (by decide) rfl) (by omega) (by decide) ?_
  refine ez_topE (y := T.x (7 + b0)) (hK0.C.sh.t _ (by omega)) ?_
  refine ez_iret dX10_brother_75 rfl rfl ?_
  exact hK0.end
theorem c_brother_2 {n : Nat} {sl : Nat × Nat} {kd : Nat → Nat × Nat} {I : Nat → Nat → Int32} {L : Nat → Nat → Int64} {Rf : Nat → Nat → Option Nat} (d : Nat) {T : zT} {H : Nat} (hC : zC n kd I L Rf T) (hO : zOk H T) (hH : H ≤ 1000000000) {b0 : Nat} (hb : b0 < T.c) : zq mX10_brother (d + 60) [.ref 0, .int (nI b0), .int 2] (n, sl, kd, I, L, Rf) (zpC n sl kd I L Rf (some (.int (v_brother T b0 2))) T) := by
  have hF := hC.F; have hc7 := hO.c
  have hK0 : zK n kd I L Rf I I L Rf T none none false := zK.start hC
  intro f B
  refine ez_meth pn_X.2.2.2.2.2.2.2.2.2.2.1 (Nat.le_of_ble_eq_true rfl) ?_
  show ez_P _ _ _ _ _ _ 0 [(0, .ref 0), (1, .int (nI b0)), (2, .int 2)] [] (n, sl, kd, I, L, Rf) _
  refine ez_aload_n (i := 0) dX10_brother_0 rfl rfl ?_
  refine ez_getR dX10_brother_1 flX10_33 (hF.lt (by decide)) (hF.kc (by decide) rfl) (hF.pt 21 rfl) ?_
  refine ez_iload_n (i := 1) dX10_brother_4 rfl rfl ?_
  refine ez_callV (M1 := mX7_has) (rest := []) dX10_brother_5 mlX10_155 mvX7_has rfl (hF.lt (by decide)) (hF.kc (by decide) rfl) (Nat.le_of_ble_eq_true rfl) rfl (zq_b1 (z_bin hb hO.c) (k_has (I := I) (L := L) (d + 59) hK0.C (nI b0))) eb_rok ?_
  rintro _ _ ⟨rfl, rfl⟩
  show ez_P _ _ _ _ _ _ 8 [(0, .ref 0), (1, .int (nI b0)), (2, .int 2)] (.int 1 :: []) _ _
  refine ez_if_eq (tgt := 20) dX10_brother_8 (by decide) (fun c1 => absurd c1 (by decide)) (fun c1 => ?_)
  refine ez_iload_n (i := 2) dX10_brother_11 rfl rfl ?_
  refine ez_iconst (v := 0) dX10_brother_12 (by decide) ?_
  refine ez_iconst (v := 3) dX10_brother_13 (by decide) ?_
  refine ez_callS (M1 := mX10_within) (rest := []) dX10_brother_14 mlX10_158 msX10_within rfl (Nat.le_of_ble_eq_true rfl) rfl (zq_b1 (by decide) (zq_b (q_X10_within (d + 59) 2 0 3) (n, sl, kd, I, L, Rf))) eb_rok ?_
  rintro _ _ ⟨rfl, rfl⟩
  show ez_P _ _ _ _ _ _ 17 [(0, .ref 0), (1, .int (nI b0)), (2, .int 2)] (.int 1 :: []) _ _
  refine ez_if_ne (tgt := 28) dX10_brother_17 (by decide) (fun c2 => ?_) (fun c2 => absurd (by decide) c2)
  refine ez_iload_n (i := 2) dX10_brother_28 rfl rfl ?_
  refine ez_tin (off := 47) (tgt := 76) dX10_brother_29 (by decide) (by decide) rfl (by decide) ?_
  refine ez_bipush (v := 10) dX10_brother_76 (by decide) ?_
  refine ez_aload_n (i := 0) dX10_brother_78 rfl rfl ?_
  refine ez_getR dX10_brother_79 flX10_33 (hF.lt (by decide)) (hF.kc (by decide) rfl) (hF.pt 21 rfl) ?_
  refine ez_getR dX10_brother_82 flX10_171 (hF.lt (by decide)) (hF.kc (by decide) rfl) (hF.pt 20 rfl) ?_
  refine ez_iload_n (i := 1) dX10_brother_85 rfl rfl ?_
  refine ez_iaN (k := b0) dX10_brother_86 (hF.lt (by decide)) (hF.ka (by decide) rfl) (by omega) (by decide) ?_
  refine ez_topE (y := T.x (14 + b0)) (hK0.C.sh.p _ (by omega)) ?_
  refine ez_iadd dX10_brother_87 ?_
  refine ez_iret dX10_brother_88 rfl rfl ?_
  exact hK0.end
theorem c_brother_3 {n : Nat} {sl : Nat × Nat} {kd : Nat → Nat × Nat} {I : Nat → Nat → Int32} {L : Nat → Nat → Int64} {Rf : Nat → Nat → Option Nat} (d : Nat) {T : zT} {H : Nat} (hC : zC n kd I L Rf T) (hO : zOk H T) (hH : H ≤ 1000000000) {b0 : Nat} (hb : b0 < T.c) : zq mX10_brother (d + 60) [.ref 0, .int (nI b0), .int 3] (n, sl, kd, I, L, Rf) (zpC n sl kd I L Rf (some (.int (v_brother T b0 3))) T) := by
  have hF := hC.F; have hc7 := hO.c
  have hK0 : zK n kd I L Rf I I L Rf T none none false := zK.start hC
  intro f B
  refine ez_meth pn_X.2.2.2.2.2.2.2.2.2.2.1 (Nat.le_of_ble_eq_true rfl) ?_
  show ez_P _ _ _ _ _ _ 0 [(0, .ref 0), (1, .int (nI b0)), (2, .int 3)] [] (n, sl, kd, I, L, Rf) _
  refine ez_aload_n (i := 0) dX10_brother_0 rfl rfl ?_
  refine ez_getR dX10_brother_1 flX10_33 (hF.lt (by decide)) (hF.kc (by decide) rfl) (hF.pt 21 rfl) ?_
  refine ez_iload_n (i := 1) dX10_brother_4 rfl rfl ?_
  refine ez_callV (M1 := mX7_has) (rest := []) dX10_brother_5 mlX10_155 mvX7_has rfl (hF.lt (by decide)) (hF.kc (by decide) rfl) (Nat.le_of_ble_eq_true rfl) rfl (zq_b1 (z_bin hb hO.c) (k_has (I := I) (L := L) (d + 59) hK0.C (nI b0))) eb_rok ?_
  rintro _ _ ⟨rfl, rfl⟩
  show ez_P _ _ _ _ _ _ 8 [(0, .ref 0), (1, .int (nI b0)), (2, .int 3)] (.int 1 :: []) _ _
  refine ez_if_eq (tgt := 20) dX10_brother_8 (by decide) (fun c1 => absurd c1 (by decide)) (fun c1 => ?_)
  refine ez_iload_n (i := 2) dX10_brother_11 rfl rfl ?_
  refine ez_iconst (v := 0) dX10_brother_12 (by decide) ?_
  refine ez_iconst (v := 3) dX10_brother_13 (by decide) ?_
  refine ez_callS (M1 := mX10_within) (rest := []) dX10_brother_14 mlX10_158 msX10_within rfl (Nat.le_of_ble_eq_true rfl) rfl (zq_b1 (by decide) (zq_b (q_X10_within (d + 59) 3 0 3) (n, sl, kd, I, L, Rf))) eb_rok ?_
  rintro _ _ ⟨rfl, rfl⟩
  show ez_P _ _ _ _ _ _ 17 [(0, .ref 0), (1, .int (nI b0)), (2, .int 3)] (.int 1 :: []) _ _
  refine ez_if_ne (tgt := 28) dX10_brother_17 (by decide) (fun c2 => ?_) (fun c2 => absurd (by decide) c2)
  refine ez_iload_n (i := 2) dX10_brother_28 rfl rfl ?_
  refine ez_tout (tgt := 89) dX10_brother_29 (by decide) (by decide) ?_
  refine ez_aload_n (i := 0) dX10_brother_89 rfl rfl ?_
  refine ez_getR dX10_brother_90 flX10_26 (hF.lt (by decide)) (hF.kc (by decide) rfl) (hF.pt 4 rfl) ?_
  refine ez_aload_n (i := 0) dX10_brother_93 rfl rfl ?_
  refine ez_getR dX10_brother_94 flX10_33 (hF.lt (by decide)) (hF.kc (by decide) rfl) (hF.pt 21 rfl) ?_
  refine ez_iload_n (i := 1) dX10_brother_97 rfl rfl ?_
  refine ez_callV (M1 := mX6_weight) (rest := []) dX10_brother_98 mlX10_174 mvX6_weight rfl (hF.lt (by decide)) (hF.kc (by decide) rfl) (Nat.le_of_ble_eq_true rfl) rfl (k_weight (T := T) (I := I) (L := L) (d + 56) hK0.C hO (j := 21) (by decide) hK0.C.sh hO.x (b := b0) (by omega)) eb_rok ?_
  rintro _ _ ⟨rfl, rfl⟩
  show ez_P _ _ _ _ _ _ 101 [(0, .ref 0), (1, .int (nI b0)), (2, .int 3)] (.int (zwt T T.x b0) :: []) _ _
  refine ez_iret dX10_brother_101 rfl rfl ?_
  exact hK0.end
theorem c_brother {n : Nat} {sl : Nat × Nat} {kd : Nat → Nat × Nat} {I : Nat → Nat → Int32} {L : Nat → Nat → Int64} {Rf : Nat → Nat → Option Nat} (d : Nat) {T : zT} {H : Nat} (hC : zC n kd I L Rf T) (hO : zOk H T) (hH : H ≤ 1000000000) {b0 : Nat} (hb : b0 < T.c) {w : Int32} (hw : 0 ≤ w ∧ w ≤ 3) : zq mX10_brother (d + 60) [.ref 0, .int (nI b0), .int w] (n, sl, kd, I, L, Rf) (zpC n sl kd I L Rf (some (.int (v_brother T b0 w))) T) := by
  obtain ⟨q, _, hq, rfl⟩ := z_pk1 (lo := 0) (N := 3) hw (by decide) (by decide)
  rcases (show q = 0 ∨ q = 1 ∨ q = 2 ∨ q = 3 by omega) with rfl | rfl | rfl | rfl
  · exact c_brother_0 d hC hO hH hb
  · exact c_brother_1 d hC hO hH hb
  · exact c_brother_2 d hC hO hH hb
  · exact c_brother_3 d hC hO hH hb
theorem c_price {n : Nat} {sl : Nat × Nat} {kd : Nat → Nat × Nat} {I : Nat → Nat → Int32} {L : Nat → Nat → Int64} {Rf : Nat → Nat → Option Nat} (d : Nat) {T : zT} {H : Nat} (hC : zC n kd I L Rf T) (hO : zOk H T) (hH : H ≤ 1000000000) {t : Nat} (ht : t < 6) : zq mX10_price (d + 60) [.ref 0, .int (nI t)] (n, sl, kd, I, L, Rf) (zpC n sl kd I L Rf (some (.int (T.pr t))) T) := by
  have hF := hC.F; have hc7 := hO.c
  have hK0 : zK n kd I L Rf I I L Rf T none none false := zK.start hC
  intro f B
  refine ez_meth pn_X.2.2.2.2.2.2.2.2.2.2.1 (Nat.le_of_ble_eq_true rfl) ?_
  show ez_P _ _ _ _ _ _ 0 [(0, .ref 0), (1, .int (nI t))] [] (n, sl, kd, I, L, Rf) _
  refine ez_iload_n (i := 1) dX10_price_0 rfl rfl ?_
  refine ez_iconst (v := 0) dX10_price_1 (by decide) ?_
  refine ez_iconst (v := 5) dX10_price_2 (by decide) ?_
  refine ez_callS (M1 := mX10_within) (rest := []) dX10_price_3 mlX10_158 msX10_within rfl (Nat.le_of_ble_eq_true rfl) rfl (zq_b1 (z_n9 (N := 5) (n0 := t) (by omega) (by decide)) (zq_b (q_X10_within (d + 59) (nI t) 0 5) (n, sl, kd, I, L, Rf))) eb_rok ?_
  rintro _ _ ⟨rfl, rfl⟩
  show ez_P _ _ _ _ _ _ 6 [(0, .ref 0), (1, .int (nI t))] (.int 1 :: []) _ _
  refine ez_if_ne (tgt := 17) dX10_price_6 (by decide) (fun c1 => ?_) (fun c1 => absurd (by decide) c1)
  refine ez_aload_n (i := 0) dX10_price_17 rfl rfl ?_
  refine ez_getR dX10_price_18 flX10_26 (hF.lt (by decide)) (hF.kc (by decide) rfl) (hF.pt 4 rfl) ?_
  refine ez_iload_n (i := 1) dX10_price_21 rfl rfl ?_
  refine ez_callV (M1 := mX6_priceOf) (rest := []) dX10_price_22 mlX10_178 mvX6_priceOf rfl (hF.lt (by decide)) (hF.kc (by decide) rfl) (Nat.le_of_ble_eq_true rfl) rfl (k_price (I := I) (L := L) (d + 59) hC ht) eb_rok ?_
  rintro _ _ ⟨rfl, rfl⟩
  show ez_P _ _ _ _ _ _ 25 [(0, .ref 0), (1, .int (nI t))] (.int (T.pr t) :: []) _ _
  refine ez_iret dX10_price_25 rfl rfl ?_
  exact hK0.end
theorem c_row {n : Nat} {sl : Nat × Nat} {kd : Nat → Nat × Nat} {I : Nat → Nat → Int32} {L : Nat → Nat → Int64} {Rf : Nat → Nat → Option Nat} (d : Nat) {T : zT} {H : Nat} (hC : zC n kd I L Rf T) (hO : zOk H T) (hH : H ≤ 1000000000) {i : Nat} (hi : i < T.rw.length) : zq mX10_row (d + 60) [.ref 0, .int (nI i)] (n, sl, kd, I, L, Rf) (zpC n sl kd I L Rf (some (.long (T.rw.getD i 0))) T) := by
  have hF := hC.F; have hc7 := hO.c
  have hK0 : zK n kd I L Rf I I L Rf T none none false := zK.start hC
  intro f B
  refine ez_meth pn_X.2.2.2.2.2.2.2.2.2.2.1 (Nat.le_of_ble_eq_true rfl) ?_
  show ez_P _ _ _ _ _ _ 0 [(0, .ref 0), (1, .int (nI i))] [] (n, sl, kd, I, L, Rf) _
  refine ez_iload_n (i := 1) dX10_row_0 rfl rfl ?_
  refine ez_iconst (v := 0) dX10_row_1 (by decide) ?_
  refine ez_aload_n (i := 0) dX10_row_2 rfl rfl ?_
  refine ez_getR dX10_row_3 flX10_19 (hF.lt (by decide)) (hF.kc (by decide) rfl) (hF.pt 3 rfl) ?_
  refine ez_getI dX10_row_6 flX10_419 (hF.lt (by decide)) (hF.kc (by decide) rfl) ?_
  refine ez_topE (y := nI T.rw.length) hK0.C.rw.1 ?_
  refine ez_iconst (v := 1) dX10_row_9 (by decide) ?_
  refine ez_isub dX10_row_10 ?_
  refine ez_callS (M1 := mX10_within) (rest := []) dX10_row_11 mlX10_158 msX10_within rfl (Nat.le_of_ble_eq_true rfl) rfl (zq_b1 (z_in8 (by have := hO.rwl; omega) |>.mpr ⟨nI_pos' (by have := hO.rwl; omega), nI_lt hi (by have := hO.rwl; omega)⟩) (zq_b (q_X10_within (d + 59) (nI i) 0 ((nI T.rw.length) - 1)) (n, sl, kd, I, L, Rf))) eb_rok ?_
  rintro _ _ ⟨rfl, rfl⟩
  show ez_P _ _ _ _ _ _ 14 [(0, .ref 0), (1, .int (nI i))] (.int 1 :: []) _ _
  refine ez_if_ne (tgt := 25) dX10_row_14 (by decide) (fun c1 => ?_) (fun c1 => absurd (by decide) c1)
  refine ez_aload_n (i := 0) dX10_row_25 rfl rfl ?_
  refine ez_getR dX10_row_26 flX10_19 (hF.lt (by decide)) (hF.kc (by decide) rfl) (hF.pt 3 rfl) ?_
  refine ez_getR dX10_row_29 flX10_420 (hF.lt (by decide)) (hF.kc (by decide) rfl) (hF.pt 2 rfl) ?_
  refine ez_iload_n (i := 1) dX10_row_32 rfl rfl ?_
  refine ez_laN (k := i) dX10_row_33 (hF.lt (by decide)) (hF.ka (by decide) rfl) (by have := hO.rwl; omega) (by decide) ?_
  refine ez_lret dX10_row_34 rfl ?_
  rw [hC.rw.2 i hi]; exact hK0.end
