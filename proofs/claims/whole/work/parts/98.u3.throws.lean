/-! the law's three cases that may throw -/
abbrev mL_brother : eb_M := (yL_brother, cL_brother, 5, some .int)
abbrev mL_price : eb_M := (yL_price, cL_price, 4, some .int)
abbrev mL_row : eb_M := (yL_row, cL_row, 4, some .int)
def eb_QW (M : eb_M) (hh : List (Nat × Nat × Nat × Nat)) (d : Nat) (as : List Value) (σ : eb_S) (Φ : Option Value → eb_S → Prop) : Prop := ∃ r τ, Φ r τ ∧ eb_EW M hh d as σ r τ
theorem ep_callSW {M M1 : eb_M} {hh : List (Nat × Nat × Nat × Nat)} {d pc idx nn : Nat} {l : List (Nat × Value)} {st rest as : List Value} {σ : eb_S} {Φ Ψ : Option Value → eb_S → Prop} (hd : decode M.2.1 pc = .ok (.invokestatic idx, 3)) (hL : Cond.methodLink M.1.cls idx M1.1 ∈ eb_tbl) (hcw : Cond.codeWith M1.1 M1.2.1 M1.2.2.1 M1.2.2.2 hh ∈ eb_tbl) (hini : Cond.initialized M1.1.cls ∈ eb_tbl) (hsta : Cond.static M1.1 ∈ eb_tbl) (hy : M1.1.cls ≠ "java/lang/invoke/MethodHandle" ∧ M1.1.cls ≠ "java/lang/invoke/VarHandle" ∧ (parseMethodDescriptor M1.1.desc).map (fun d => d.parameters.length) = some nn) (hm21 : M1.2.2.1 ≤ 21) (hn : as.length = nn) (hrest : (rest.map fun v => v.category).sum ≤ 8) (hst : as.reverse ++ rest = st) (hE : eb_QW M1 hh d as σ Ψ) (hok : ∀ r1 σ1, Ψ r1 σ1 → σ1.1 = σ.1 ∨ ((∀ q ∈ l, eb_okv σ.1 q.2) ∧ ∀ v ∈ rest, eb_okv σ.1 v)) (kk : ∀ r1 σ1, Ψ r1 σ1 → eb_P M (d + 1) (pc + 3) l (r1.toList ++ rest) σ1 Φ) : eb_P M (d + 1) pc l st σ Φ := by
  obtain ⟨r1, σ1, h1, hE⟩ := hE
  obtain ⟨r, τ, h, v⟩ := kk r1 σ1 h1
  exact ⟨r, τ, h, eb_callSW hE hd hL hcw hini hsta hy hm21 hn hrest hst (hok r1 σ1 h1) v⟩
theorem z_setL_at {L : Nat → Nat → Int64} {i k : Nat} {v : Int64} : z_setL L i k v i k = v := by simp [z_setL]
theorem lg_cmp_self (x : Int64) : lg_cmp x x = 0 := by
  unfold lg_cmp
  have h : ¬ x < x := Int64.lt_irrefl
  simp [h]
/-- behind a call of the law's own, and behind one on the reference -/
def zpZ (sl : Nat × Nat) (kd : Nat → Nat × Nat) (xs : Nat → Int32) (T : zT) (f : Nat) (t : Int32) (w : Int64) (v : Option Value) : Option Value → eb_S → Prop := fun r τ => r = v ∧ ∃ I1 L1 R1, τ = (138, sl, kd, I1, L1, R1) ∧ zC 138 kd I1 L1 R1 T ∧ zM 138 kd I1 L1 R1 T ∧ (∃ B, zInv f B I1) ∧ I1 112 9 = t ∧ I1 1000060 = xs ∧ L1 137 0 = w
theorem zpZ_ok {sl : Nat × Nat} {kd : Nat → Nat × Nat} {xs : Nat → Int32} {T : zT} {f : Nat} {t : Int32} {w : Int64} {v : Option Value} {l : List (Nat × Value)} {rest : List Value} : ∀ r1 σ1, zpZ sl kd xs T f t w v r1 σ1 → σ1.1 = 138 ∨ ((∀ q ∈ l, eb_okv 138 q.2) ∧ ∀ v ∈ rest, eb_okv 138 v) := fun _ _ h => Or.inl (by obtain ⟨_, _, _, _, h, _⟩ := h; rw [h])
theorem z_refZ {sl : Nat × Nat} {kd : Nat → Nat × Nat} {I : Nat → Nat → Int32} {L : Nat → Nat → Int64} {Rf : Nat → Nat → Option Nat} {xs : Nat → Int32} {T : zT} {f : Nat} {B : Nat → Int32} {M : eb_M} {d : Nat} {as : List Value} {t : Int32} {v : Option Value} {w : Int64} (hC : zC 138 kd I L Rf T) (hI : zInv f B I) (hx : I 1000060 = xs) (hw : L 137 0 = w) (h : zq M d as (138, sl, kd, I, L, Rf) (fun r τ => r = v ∧ ∃ I1 L1 R1, τ = (138, sl, kd, I1, L1, R1) ∧ zM 138 kd I1 L1 R1 T ∧ I1 112 9 = t ∧ ∀ c, c < 112 ∨ 136 < c → I1 c = I c ∧ L1 c = L c ∧ R1 c = Rf c)) : eb_Q M d as (138, sl, kd, I, L, Rf) (zpZ sl kd xs T f t w v) := by
  refine (h f B I Rf (zE.rf hI)).to ?_
  rintro r ⟨tn, tsl, tkd, tI, tL, tR⟩ ⟨Ia, Ra, C, hC7, hE, rfl, I1, L1, R1, he, hM1, h9, hf⟩
  obtain ⟨rfl, rfl, rfl, rfl, rfl, rfl⟩ : tn = 138 ∧ tsl = sl ∧ tkd = kd ∧ Ia = I1 ∧ tL = L1 ∧ Ra = R1 := by
    have := he
    simp only [Prod.mk.injEq] at this
    exact this
  have hE : zE f C Ia tI Ra tR := hE
  refine ⟨rfl, tI, tL, tR, rfl, (hC.cg hM1.F rfl (fun c hc => (hf c (by omega)).1) (hf 4 (by decide)).2.1 (fun c hc => (hf c (by omega)).2.2)).E hE, hM1.E hE, ⟨C, hE.2.2⟩, ?_, ?_, ?_⟩
  · rw [hE.1 112 9 (by unfold zscr; omega)]; exact h9
  · rw [hE.cell (c := 1000060) (by unfold znc; omega), (hf 1000060 (by decide)).1]; exact hx
  · rw [(hf 137 (by decide)).2.1]; exact hw
theorem z_thrZ {sl : Nat × Nat} {kd : Nat → Nat × Nat} {I : Nat → Nat → Int32} {L : Nat → Nat → Int64} {Rf : Nat → Nat → Option Nat} {xs : Nat → Int32} {T : zT} {f : Nat} {B : Nat → Int32} (d : Nat) {t : Int32} {w : Int64} (hC : zC 138 kd I L Rf T) (hM : zM 138 kd I L Rf T) (hI : zInv f B I) (ht : I 112 9 = t) (hx : I 1000060 = xs) (hw : L 137 0 = w) : eb_Q mX11_thrown d [.ref 112] (138, sl, kd, I, L, Rf) (zpZ sl kd xs T f t w (some (.int t))) := by
  refine ((y_X11_thrown d hM.F) f B I Rf (zE.rf hI)).to ?_
  rintro r ⟨tn, tsl, tkd, tI, tL, tR⟩ ⟨Ia, Ra, C, hC7, hE, he, hr⟩
  obtain ⟨rfl, rfl, rfl, rfl, rfl, rfl⟩ : tn = 138 ∧ tsl = sl ∧ tkd = kd ∧ Ia = I ∧ tL = L ∧ Ra = Rf := by
    have := he
    simp only [Prod.mk.injEq] at this
    exact this
  have hE : zE f C Ia tI Ra tR := hE
  refine ⟨by rw [hr, ht], tI, tL, tR, rfl, hC.E hE, hM.E hE, ⟨C, hE.2.2⟩, ?_, ?_, hw⟩
  · rw [hE.1 112 9 (by unfold zscr; omega)]; exact ht
  · rw [hE.cell (c := 1000060) (by unfold znc; omega)]; exact hx
theorem zC.L7 {kd : Nat → Nat × Nat} {I : Nat → Nat → Int32} {L : Nat → Nat → Int64} {Rf : Nat → Nat → Option Nat} {T : zT} {x : Int64} (h : zC 138 kd I L Rf T) : zC 138 kd I (z_setL L 137 0 x) Rf T := h.cg h.F rfl (fun _ _ => rfl) (z_setL_ne (by decide)) (fun _ _ => rfl)
theorem zM.L7 {kd : Nat → Nat × Nat} {I : Nat → Nat → Int32} {L : Nat → Nat → Int64} {Rf : Nat → Nat → Option Nat} {T : zT} {x : Int64} (h : zM 138 kd I L Rf T) : zM 138 kd I (z_setL L 137 0 x) Rf T := h.cg h.F (fun _ _ _ => rfl) (z_setL_ne (by decide)) rfl
theorem z_up9 {σ : eb_S} : (eb_up σ).1 = σ.1 := rfl
theorem x_brother (d : Nat) {sl : Nat × Nat} {kd : Nat → Nat × Nat} {I : Nat → Nat → Int32} {L : Nat → Nat → Int64} {Rf : Nat → Nat → Option Nat} {T : zT} (hC : zC 138 kd I L Rf T) {b w : Int32} (hno : ¬ ((0 ≤ b ∧ b < nI T.c) ∧ (0 ≤ w ∧ w ≤ 3))) : eb_XM mX10_brother (d + 399) [.ref 0, .int b, .int w] (138, sl, kd, I, L, Rf) := by
  have hF := hC.F
  refine eb_thr (pcE := 20) rfl pn_X.2.2.2.2.2.2.2.2.2.2.1 (Nat.le_of_ble_eq_true rfl) (by omega) ?_ dX10_brother_20 dX10_brother_23 dX10_brother_24 dX10_brother_27
  show eb_U mX10_brother (d + 399) 0 [(0, .ref 0), (1, .int b), (2, .int w)] [] (138, sl, kd, I, L, Rf) 20 []
  refine eu_aload_n (i := 0) dX10_brother_0 rfl rfl ?_
  refine eu_getR dX10_brother_1 flX10_33 (Nat.le_of_ble_eq_true rfl) (hF.kc (by decide) rfl) (hF.pt 21 rfl) ?_
  refine eu_iload_n (i := 1) dX10_brother_4 rfl rfl ?_
  obtain ⟨r1, τ1, ⟨rfl, hh⟩, hE⟩ := q_X7_has (sl := sl) (I := I) (L := L) (d + 398) (hF.shp (i := 21) (by decide)) b
  rw [hC.sh.cr] at hh
  rcases hh with ⟨h1, rfl⟩ | ⟨h1, rfl⟩
  · refine eu_callV (i := 21) (rest := []) hE dX10_brother_5 mlX10_155 mvX7_has rfl (Nat.le_of_ble_eq_true rfl) (hF.kc (by decide) rfl) (Nat.le_of_ble_eq_true rfl) rfl ?_
    show eb_U mX10_brother (d + 399) 8 [(0, .ref 0), (1, .int b), (2, .int w)] [.int 1] (138, sl, kd, I, L, Rf) 20 []
    refine eu_if_eq1 (tgt := 20) dX10_brother_8 (by decide) ?_
    refine eu_iload_n (i := 2) dX10_brother_11 rfl rfl ?_
    refine eu_iconst (v := 0) dX10_brother_12 (by decide) ?_
    refine eu_iconst (v := 3) dX10_brother_13 (by decide) ?_
    obtain ⟨r2, τ2, ⟨rfl, hh⟩, hE2⟩ := q_X10_within (d + 398) w 0 3 (138, sl, kd, I, L, Rf)
    rcases hh with ⟨h2, rfl⟩ | ⟨h2, rfl⟩
    · exact absurd ⟨h1, h2⟩ hno
    · refine eu_callS (rest := []) hE2 dX10_brother_14 mlX10_158 msX10_within rfl (Nat.le_of_ble_eq_true rfl) rfl ?_
      show eb_U mX10_brother (d + 399) 17 [(0, .ref 0), (1, .int b), (2, .int w)] [.int 0] (138, sl, kd, I, L, Rf) 20 []
      exact eu_if_ne0 (tgt := 28) dX10_brother_17 (by decide) eu_end
  · refine eu_callV (i := 21) (rest := []) hE dX10_brother_5 mlX10_155 mvX7_has rfl (Nat.le_of_ble_eq_true rfl) (hF.kc (by decide) rfl) (Nat.le_of_ble_eq_true rfl) rfl ?_
    show eb_U mX10_brother (d + 399) 8 [(0, .ref 0), (1, .int b), (2, .int w)] [.int 0] (138, sl, kd, I, L, Rf) 20 []
    exact eu_if_eq0 (tgt := 20) dX10_brother_8 (by decide) eu_end
theorem x_price (d : Nat) {sl : Nat × Nat} {kd : Nat → Nat × Nat} {I : Nat → Nat → Int32} {L : Nat → Nat → Int64} {Rf : Nat → Nat → Option Nat} {T : zT} (hC : zC 138 kd I L Rf T) {t : Int32} (hno : ¬ (0 ≤ t ∧ t ≤ 5)) : eb_XM mX10_price (d + 399) [.ref 0, .int t] (138, sl, kd, I, L, Rf) := by
  have hF := hC.F
  refine eb_thr (pcE := 9) rfl pn_X.2.2.2.2.2.2.2.2.2.2.1 (Nat.le_of_ble_eq_true rfl) (by omega) ?_ dX10_price_9 dX10_price_12 dX10_price_13 dX10_price_16
  show eb_U mX10_price (d + 399) 0 [(0, .ref 0), (1, .int t)] [] (138, sl, kd, I, L, Rf) 9 []
  refine eu_iload_n (i := 1) dX10_price_0 rfl rfl ?_
  refine eu_iconst (v := 0) dX10_price_1 (by decide) ?_
  refine eu_iconst (v := 5) dX10_price_2 (by decide) ?_
  obtain ⟨r2, τ2, ⟨rfl, hh⟩, hE2⟩ := q_X10_within (d + 398) t 0 5 (138, sl, kd, I, L, Rf)
  rcases hh with ⟨h2, rfl⟩ | ⟨h2, rfl⟩
  · exact absurd h2 hno
  · refine eu_callS (rest := []) hE2 dX10_price_3 mlX10_158 msX10_within rfl (Nat.le_of_ble_eq_true rfl) rfl ?_
    show eb_U mX10_price (d + 399) 6 [(0, .ref 0), (1, .int t)] [.int 0] (138, sl, kd, I, L, Rf) 9 []
    exact eu_if_ne0 (tgt := 17) dX10_price_6 (by decide) eu_end
theorem x_row (d : Nat) {sl : Nat × Nat} {kd : Nat → Nat × Nat} {I : Nat → Nat → Int32} {L : Nat → Nat → Int64} {Rf : Nat → Nat → Option Nat} {T : zT} (hC : zC 138 kd I L Rf T) {i : Int32} (hno : ¬ (0 ≤ i ∧ i ≤ nI T.rw.length - 1)) : eb_XM mX10_row (d + 399) [.ref 0, .int i] (138, sl, kd, I, L, Rf) := by
  have hF := hC.F
  refine eb_thr (pcE := 17) rfl pn_X.2.2.2.2.2.2.2.2.2.2.1 (Nat.le_of_ble_eq_true rfl) (by omega) ?_ dX10_row_17 dX10_row_20 dX10_row_21 dX10_row_24
  show eb_U mX10_row (d + 399) 0 [(0, .ref 0), (1, .int i)] [] (138, sl, kd, I, L, Rf) 17 []
  refine eu_iload_n (i := 1) dX10_row_0 rfl rfl ?_
  refine eu_iconst (v := 0) dX10_row_1 (by decide) ?_
  refine eu_aload_n (i := 0) dX10_row_2 rfl rfl ?_
  refine eu_getR dX10_row_3 flX10_19 (Nat.le_of_ble_eq_true rfl) (hF.kc (by decide) rfl) (hF.pt 3 rfl) ?_
  refine eu_getI dX10_row_6 flX10_419 (Nat.le_of_ble_eq_true rfl) (hF.kc (by decide) rfl) ?_
  refine eu_iconst (v := 1) dX10_row_9 (by decide) ?_
  refine eu_isub dX10_row_10 ?_
  obtain ⟨r2, τ2, ⟨rfl, hh⟩, hE2⟩ := q_X10_within (d + 398) i 0 (I 3 1 - 1) (138, sl, kd, I, L, Rf)
  rw [hC.rw.1] at hh
  rcases hh with ⟨h2, rfl⟩ | ⟨h2, rfl⟩
  · exact absurd h2 hno
  · refine eu_callS (rest := []) hE2 dX10_row_11 mlX10_158 msX10_within rfl (Nat.le_of_ble_eq_true rfl) rfl ?_
    show eb_U mX10_row (d + 399) 14 [(0, .ref 0), (1, .int i)] [.int 0] (138, sl, kd, I, L, Rf) 17 []
    exact eu_if_ne0 (tgt := 25) dX10_row_14 (by decide) eu_end
theorem w_brother_no (d : Nat) {sl : Nat × Nat} {kd : Nat → Nat × Nat} {I : Nat → Nat → Int32} {L : Nat → Nat → Int64} {Rf : Nat → Nat → Option Nat} {T : zT} (hC : zC 138 kd I L Rf T) {b w : Int32} (hno : ¬ ((0 ≤ b ∧ b < nI T.c) ∧ (0 ≤ w ∧ w ≤ 3))) : eb_EW mL_brother [(0, 10, 13, 13)] (d + 400) [.ref 0, .int b, .int w, .ref 137] (138, sl, kd, I, L, Rf) (some (.int 1)) (eb_up (138, sl, kd, I, L, Rf)) := by
  refine eb_catch (M1 := mX10_brother) (d := d + 399) (pcE := 5) (pcH := 13) (i := 0) (iH := 4) (as1 := [.int b, .int w]) (rest := [.int 0, .ref 137]) (stE := [.int w, .int b, .ref 0, .int 0, .ref 137]) rfl (by decide +kernel) (Nat.le_of_ble_eq_true rfl) ?_ rfl (Nat.le_of_ble_eq_true rfl) (x_brother d hC hno) dL_brother_5 (eb_tb5 137 rfl rfl) mvX10_brother rfl (Nat.le_of_ble_eq_true rfl) (hC.F.kc (by decide) rfl) (eb_tb5 135 rfl rfl) ⟨0, 10, 13, 13⟩ rfl rfl rfl rfl ⟨2, dL_brother_15, dL_brother_16, by decide, Or.inl ⟨rfl, dL_brother_13⟩⟩ rfl
  show eb_U mL_brother (d + 399 + 1) 0 [(0, .ref 0), (1, .int b), (2, .int w), (3, .ref 137)] [] (138, sl, kd, I, L, Rf) 5 [.int w, .int b, .ref 0, .int 0, .ref 137]
  refine eu_aload_n (i := 3) dL_brother_0 rfl rfl ?_
  refine eu_iconst (v := 0) dL_brother_1 (by decide) ?_
  refine eu_aload_n (i := 0) dL_brother_2 rfl rfl ?_
  refine eu_iload_n (i := 1) dL_brother_3 rfl rfl ?_
  refine eu_iload_n (i := 2) dL_brother_4 rfl rfl ?_
  exact eu_end
theorem w_brother_ok (d : Nat) {f H : Nat} {sl : Nat × Nat} {kd : Nat → Nat × Nat} {I : Nat → Nat → Int32} {L : Nat → Nat → Int64} {Rf : Nat → Nat → Option Nat} {T : zT} {xs : Nat → Int32} (hL : zL 138 kd I L Rf T H (f + 100)) (hx : I 1000060 = xs) (hH : H ≤ 800000000) {b0 : Nat} {w : Int32} (hb : b0 < T.c) (hw : 0 ≤ w ∧ w ≤ 3) : eb_QW mL_brother [(0, 10, 13, 13)] (d + 400) [.ref 0, .int (nI b0), .int w, .ref 137] (138, sl, kd, I, L, Rf) (fun r τ => r = some (.int 0) ∧ ∃ I1 L1 R1, τ = (138, sl, kd, I1, L1, R1) ∧ zC 138 kd I1 L1 R1 T ∧ zM 138 kd I1 L1 R1 T ∧ (∃ B, zInv f B I1) ∧ I1 1000060 = xs ∧ L1 137 0 = (v_brother T b0 w).toInt64) := by
  obtain ⟨B0, hB0⟩ := hL.2.2.2
  suffices h : eb_P mL_brother (d + 400) 0 [(0, .ref 0), (1, .int (nI b0)), (2, .int w), (3, .ref 137)] [] (138, sl, kd, I, L, Rf) (fun r τ => r = some (.int 0) ∧ ∃ I1 L1 R1, τ = (138, sl, kd, I1, L1, R1) ∧ zC 138 kd I1 L1 R1 T ∧ zM 138 kd I1 L1 R1 T ∧ (∃ B, zInv f B I1) ∧ I1 1000060 = xs ∧ L1 137 0 = (v_brother T b0 w).toInt64) by
    obtain ⟨r, τ, hφ, hv⟩ := h
    exact ⟨r, τ, hφ, eb_methW (by decide +kernel) (Nat.le_of_ble_eq_true rfl) hv⟩
  refine ep_aload_n (i := 3) dL_brother_0 rfl rfl ?_
  refine ep_iconst (v := 0) dL_brother_1 (by decide) ?_
  refine ep_aload_n (i := 0) dL_brother_2 rfl rfl ?_
  refine ep_iload_n (i := 1) dL_brother_3 rfl rfl ?_
  refine ep_iload_n (i := 2) dL_brother_4 rfl rfl ?_
  refine ep_callV (i := 0) (M1 := mX10_brother) (rest := [.int 0, .ref 137]) dL_brother_5 (Or.inl (eb_tb5 137 rfl rfl)) mvX10_brother rfl (Nat.le_of_ble_eq_true rfl) (hL.1.F.kc (by decide) rfl) (Nat.le_of_ble_eq_true rfl) rfl (z_clsQ (f := f) hL.2.1 hB0 (c_brother (d + 339) hL.1 hL.2.2.1 (by omega) hb hw)) zpXc_ok ?_
  rintro _ _ ⟨rfl, I1, L1, R1, rfl, hC1, hM1, hB1, hx1⟩
  show eb_P _ _ 8 [(0, .ref 0), (1, .int (nI b0)), (2, .int w), (3, .ref 137)] [.int (v_brother T b0 w), .int 0, .ref 137] (138, sl, kd, I1, L1, R1) _
  refine ep_i2l dL_brother_8 rfl ?_
  refine ep_lsN (k := 0) dL_brother_9 (Nat.le_of_ble_eq_true rfl) (hC1.F.ka (c := 137) (x := (23, 1)) (by decide) rfl) (by decide) (by decide) ?_
  refine ep_goto (tgt := 17) dL_brother_10 (by decide) ?_
  refine ep_iconst (v := 0) dL_brother_17 (by decide) ?_
  refine ep_iret dL_brother_18 rfl rfl ?_
  exact ⟨rfl, I1, _, R1, rfl, hC1.L7, hM1.L7, hB1, hx1.trans hx, z_setL_at⟩
theorem w_price_no (d : Nat) {sl : Nat × Nat} {kd : Nat → Nat × Nat} {I : Nat → Nat → Int32} {L : Nat → Nat → Int64} {Rf : Nat → Nat → Option Nat} {T : zT} (hC : zC 138 kd I L Rf T) {t : Int32} (hno : ¬ (0 ≤ t ∧ t ≤ 5)) : eb_EW mL_price [(0, 9, 12, 13)] (d + 400) [.ref 0, .int t, .ref 137] (138, sl, kd, I, L, Rf) (some (.int 1)) (eb_up (138, sl, kd, I, L, Rf)) := by
  refine eb_catch (M1 := mX10_price) (d := d + 399) (pcE := 4) (pcH := 12) (i := 0) (iH := 3) (as1 := [.int t]) (rest := [.int 0, .ref 137]) (stE := [.int t, .ref 0, .int 0, .ref 137]) rfl (by decide +kernel) (Nat.le_of_ble_eq_true rfl) ?_ rfl (Nat.le_of_ble_eq_true rfl) (x_price d hC hno) dL_price_4 (eb_tb5 205 rfl rfl) mvX10_price rfl (Nat.le_of_ble_eq_true rfl) (hC.F.kc (by decide) rfl) (eb_tb5 204 rfl rfl) ⟨0, 9, 12, 13⟩ rfl rfl rfl rfl ⟨1, dL_price_13, dL_price_14, by decide, Or.inr ⟨rfl, 3, rfl, dL_price_12⟩⟩ rfl
  show eb_U mL_price (d + 399 + 1) 0 [(0, .ref 0), (1, .int t), (2, .ref 137)] [] (138, sl, kd, I, L, Rf) 4 [.int t, .ref 0, .int 0, .ref 137]
  refine eu_aload_n (i := 2) dL_price_0 rfl rfl ?_
  refine eu_iconst (v := 0) dL_price_1 (by decide) ?_
  refine eu_aload_n (i := 0) dL_price_2 rfl rfl ?_
  refine eu_iload_n (i := 1) dL_price_3 rfl rfl ?_
  exact eu_end
theorem w_price_ok (d : Nat) {f H : Nat} {sl : Nat × Nat} {kd : Nat → Nat × Nat} {I : Nat → Nat → Int32} {L : Nat → Nat → Int64} {Rf : Nat → Nat → Option Nat} {T : zT} {xs : Nat → Int32} (hL : zL 138 kd I L Rf T H (f + 100)) (hx : I 1000060 = xs) (hH : H ≤ 800000000) {t0 : Nat} (ht : t0 < 6) : eb_QW mL_price [(0, 9, 12, 13)] (d + 400) [.ref 0, .int (nI t0), .ref 137] (138, sl, kd, I, L, Rf) (fun r τ => r = some (.int 0) ∧ ∃ I1 L1 R1, τ = (138, sl, kd, I1, L1, R1) ∧ zC 138 kd I1 L1 R1 T ∧ zM 138 kd I1 L1 R1 T ∧ (∃ B, zInv f B I1) ∧ I1 1000060 = xs ∧ L1 137 0 = (T.pr t0).toInt64) := by
  obtain ⟨B0, hB0⟩ := hL.2.2.2
  suffices h : eb_P mL_price (d + 400) 0 [(0, .ref 0), (1, .int (nI t0)), (2, .ref 137)] [] (138, sl, kd, I, L, Rf) (fun r τ => r = some (.int 0) ∧ ∃ I1 L1 R1, τ = (138, sl, kd, I1, L1, R1) ∧ zC 138 kd I1 L1 R1 T ∧ zM 138 kd I1 L1 R1 T ∧ (∃ B, zInv f B I1) ∧ I1 1000060 = xs ∧ L1 137 0 = (T.pr t0).toInt64) by
    obtain ⟨r, τ, hφ, hv⟩ := h
    exact ⟨r, τ, hφ, eb_methW (by decide +kernel) (Nat.le_of_ble_eq_true rfl) hv⟩
  refine ep_aload_n (i := 2) dL_price_0 rfl rfl ?_
  refine ep_iconst (v := 0) dL_price_1 (by decide) ?_
  refine ep_aload_n (i := 0) dL_price_2 rfl rfl ?_
  refine ep_iload_n (i := 1) dL_price_3 rfl rfl ?_
  refine ep_callV (i := 0) (M1 := mX10_price) (rest := [.int 0, .ref 137]) dL_price_4 (Or.inl (eb_tb5 205 rfl rfl)) mvX10_price rfl (Nat.le_of_ble_eq_true rfl) (hL.1.F.kc (by decide) rfl) (Nat.le_of_ble_eq_true rfl) rfl (z_clsQ (f := f) hL.2.1 hB0 (c_price (d + 339) hL.1 hL.2.2.1 (by omega) ht)) zpXc_ok ?_
  rintro _ _ ⟨rfl, I1, L1, R1, rfl, hC1, hM1, hB1, hx1⟩
  show eb_P _ _ 7 [(0, .ref 0), (1, .int (nI t0)), (2, .ref 137)] [.int (T.pr t0), .int 0, .ref 137] (138, sl, kd, I1, L1, R1) _
  refine ep_i2l dL_price_7 rfl ?_
  refine ep_lsN (k := 0) dL_price_8 (Nat.le_of_ble_eq_true rfl) (hC1.F.ka (c := 137) (x := (23, 1)) (by decide) rfl) (by decide) (by decide) ?_
  refine ep_goto (tgt := 15) dL_price_9 (by decide) ?_
  refine ep_iconst (v := 0) dL_price_15 (by decide) ?_
  refine ep_iret dL_price_16 rfl rfl ?_
  exact ⟨rfl, I1, _, R1, rfl, hC1.L7, hM1.L7, hB1, hx1.trans hx, z_setL_at⟩
theorem w_row_no (d : Nat) {sl : Nat × Nat} {kd : Nat → Nat × Nat} {I : Nat → Nat → Int32} {L : Nat → Nat → Int64} {Rf : Nat → Nat → Option Nat} {T : zT} (hC : zC 138 kd I L Rf T) {i : Int32} (hno : ¬ (0 ≤ i ∧ i ≤ nI T.rw.length - 1)) : eb_EW mL_row [(0, 8, 11, 13)] (d + 400) [.ref 0, .int i, .ref 137] (138, sl, kd, I, L, Rf) (some (.int 1)) (eb_up (138, sl, kd, I, L, Rf)) := by
  refine eb_catch (M1 := mX10_row) (d := d + 399) (pcE := 4) (pcH := 11) (i := 0) (iH := 3) (as1 := [.int i]) (rest := [.int 0, .ref 137]) (stE := [.int i, .ref 0, .int 0, .ref 137]) rfl (by decide +kernel) (Nat.le_of_ble_eq_true rfl) ?_ rfl (Nat.le_of_ble_eq_true rfl) (x_row d hC hno) dL_row_4 (eb_tb5 213 rfl rfl) mvX10_row rfl (Nat.le_of_ble_eq_true rfl) (hC.F.kc (by decide) rfl) (eb_tb5 212 rfl rfl) ⟨0, 8, 11, 13⟩ rfl rfl rfl rfl ⟨1, dL_row_12, dL_row_13, by decide, Or.inr ⟨rfl, 3, rfl, dL_row_11⟩⟩ rfl
  show eb_U mL_row (d + 399 + 1) 0 [(0, .ref 0), (1, .int i), (2, .ref 137)] [] (138, sl, kd, I, L, Rf) 4 [.int i, .ref 0, .int 0, .ref 137]
  refine eu_aload_n (i := 2) dL_row_0 rfl rfl ?_
  refine eu_iconst (v := 0) dL_row_1 (by decide) ?_
  refine eu_aload_n (i := 0) dL_row_2 rfl rfl ?_
  refine eu_iload_n (i := 1) dL_row_3 rfl rfl ?_
  exact eu_end
theorem w_row_ok (d : Nat) {f H : Nat} {sl : Nat × Nat} {kd : Nat → Nat × Nat} {I : Nat → Nat → Int32} {L : Nat → Nat → Int64} {Rf : Nat → Nat → Option Nat} {T : zT} {xs : Nat → Int32} (hL : zL 138 kd I L Rf T H (f + 100)) (hx : I 1000060 = xs) (hH : H ≤ 800000000) {i0 : Nat} (hi : i0 < T.rw.length) : eb_QW mL_row [(0, 8, 11, 13)] (d + 400) [.ref 0, .int (nI i0), .ref 137] (138, sl, kd, I, L, Rf) (fun r τ => r = some (.int 0) ∧ ∃ I1 L1 R1, τ = (138, sl, kd, I1, L1, R1) ∧ zC 138 kd I1 L1 R1 T ∧ zM 138 kd I1 L1 R1 T ∧ (∃ B, zInv f B I1) ∧ I1 1000060 = xs ∧ L1 137 0 = T.rw.getD i0 0) := by
  obtain ⟨B0, hB0⟩ := hL.2.2.2
  suffices h : eb_P mL_row (d + 400) 0 [(0, .ref 0), (1, .int (nI i0)), (2, .ref 137)] [] (138, sl, kd, I, L, Rf) (fun r τ => r = some (.int 0) ∧ ∃ I1 L1 R1, τ = (138, sl, kd, I1, L1, R1) ∧ zC 138 kd I1 L1 R1 T ∧ zM 138 kd I1 L1 R1 T ∧ (∃ B, zInv f B I1) ∧ I1 1000060 = xs ∧ L1 137 0 = T.rw.getD i0 0) by
    obtain ⟨r, τ, hφ, hv⟩ := h
    exact ⟨r, τ, hφ, eb_methW (by decide +kernel) (Nat.le_of_ble_eq_true rfl) hv⟩
  refine ep_aload_n (i := 2) dL_row_0 rfl rfl ?_
  refine ep_iconst (v := 0) dL_row_1 (by decide) ?_
  refine ep_aload_n (i := 0) dL_row_2 rfl rfl ?_
  refine ep_iload_n (i := 1) dL_row_3 rfl rfl ?_
  refine ep_callV (i := 0) (M1 := mX10_row) (rest := [.int 0, .ref 137]) dL_row_4 (Or.inl (eb_tb5 213 rfl rfl)) mvX10_row rfl (Nat.le_of_ble_eq_true rfl) (hL.1.F.kc (by decide) rfl) (Nat.le_of_ble_eq_true rfl) rfl (z_clsQ (f := f) hL.2.1 hB0 (c_row (d + 339) hL.1 hL.2.2.1 (by omega) hi)) zpXc_ok ?_
  rintro _ _ ⟨rfl, I1, L1, R1, rfl, hC1, hM1, hB1, hx1⟩
  show eb_P _ _ 7 [(0, .ref 0), (1, .int (nI i0)), (2, .ref 137)] [.long (T.rw.getD i0 0), .int 0, .ref 137] (138, sl, kd, I1, L1, R1) _
  refine ep_lsN (k := 0) dL_row_7 (Nat.le_of_ble_eq_true rfl) (hC1.F.ka (c := 137) (x := (23, 1)) (by decide) rfl) (by decide) (by decide) ?_
  refine ep_goto (tgt := 14) dL_row_8 (by decide) ?_
  refine ep_iconst (v := 0) dL_row_14 (by decide) ?_
  refine ep_iret dL_row_15 rfl rfl ?_
  exact ⟨rfl, I1, _, R1, rfl, hC1.L7, hM1.L7, hB1, hx1.trans hx, z_setL_at⟩
