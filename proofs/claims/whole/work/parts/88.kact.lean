/-! the class: an act of the watch -/
theorem zho_k {T : zT} {w : Int32} {x : Nat → Int32} : zho T w x = 0 ∨ zho T w x = 1 := by
  unfold zho; split <;> simp
theorem zhc_k {T : zT} {x : Nat → Int32} : ∀ k, ∃ q, q ≤ k ∧ zhc T x k = nI q
  | 0 => ⟨0, Nat.le_refl _, rfl⟩
  | k + 1 => by
    obtain ⟨q, hq, e⟩ := zhc_k k
    rw [zhc, e]
    rcases zho_k (T := T) (w := zhw T (zhk T x k)) (x := zhk T x k) with h | h
    · exact ⟨q, by omega, by rw [h]; exact Int32.add_zero _⟩
    · exact ⟨q + 1, by omega, by rw [h]; exact nI_1 q⟩
theorem zhk_tx {T : zT} {t : List Int32} {x : Nat → Int32} : ∀ k, zhk (T.w_tx t) x k = zhk T x k
  | 0 => rfl
  | k + 1 => by rw [zhk, zhk, zhk_tx k]; rfl
theorem q_act_tx {T : zT} {t : List Int32} {ch b u : Int32} : q_act (T.w_tx t) ch b u = q_act T ch b u := by
  unfold q_act; rw [show (T.w_tx t).x = T.x from rfl, zhk_tx]; rfl
/-- behind an act -/
def zpW (n : Nat) (sl : Nat × Nat) (kd : Nat → Nat × Nat) (I0 : Nat → Nat → Int32) (L0 : Nat → Nat → Int64) (R0 : Nat → Nat → Option Nat) (g : Nat → Nat → Int32) (L : Nat → Nat → Int64) (Rf : Nat → Nat → Option Nat) (T : zT) (G Bf : Option (Nat → Int32)) (q : Int32 × (Nat → Int32)) : Option Value → eb_S → Prop := fun r τ => ∃ v, r = some (.int v) ∧ (v < 0 ↔ q.1 < 0) ∧ ∃ I1, τ = (n, sl, kd, I1, L, Rf) ∧ zK n kd I0 L0 R0 g I1 L Rf (T.w_x q.2) G Bf false
theorem zpX_ok2 {n : Nat} {sl : Nat × Nat} {kd : Nat → Nat × Nat} {I0 : Nat → Nat → Int32} {L0 : Nat → Nat → Int64} {R0 : Nat → Nat → Option Nat} {g : Nat → Nat → Int32} {L : Nat → Nat → Int64} {Rf : Nat → Nat → Option Nat} {T : zT} {G Bf : Option (Nat → Int32)} {q : Int32 × (Nat → Int32)} {l : List (Nat × Value)} {rest : List Value} : ∀ r1 σ1, zpX n sl kd I0 L0 R0 g L Rf T G Bf q r1 σ1 → σ1.1 = n ∨ ((∀ q ∈ l, eb_okv n q.2) ∧ ∀ v ∈ rest, eb_okv n v) := fun _ _ h => Or.inl (by obtain ⟨_, I1, h, _⟩ := h; rw [h])
theorem k_act_116 {n : Nat} {sl : Nat × Nat} {kd : Nat → Nat × Nat} {I : Nat → Nat → Int32} {L : Nat → Nat → Int64} {Rf : Nat → Nat → Option Nat} (d : Nat) {T : zT} {H : Nat} {I0 g : Nat → Nat → Int32} {L0 : Nat → Nat → Int64} {R0 : Nat → Nat → Option Nat} {G Bf : Option (Nat → Int32)} {w : Bool} (hK : zK n kd I0 L0 R0 g I L Rf T G Bf w) (hO : zOk H T) (hH : H ≤ 1000000000) {p : Nat} (hl : T.tt p = 116) (hp : p + 3 ≤ T.tx.length) : zq mX10_act (d + 40) [.ref 0, .int (nI p)] (n, sl, kd, I, L, Rf) (zpW n sl kd I0 L0 R0 g L Rf T G Bf (q_tell T (T.tt (p + 1) - 48) (T.tt (p + 2) - 48))) := by
  have hC := hK.C; have hF := hC.F; have hc7 := hO.c
  intro f B
  refine ez_meth pn_X.2.2.2.2.2.2.2.2.2.2.1 (Nat.le_of_ble_eq_true rfl) ?_
  show ez_P _ _ _ _ _ _ 0 [(0, .ref 0), (1, .int (nI p))] [] (n, sl, kd, I, L, Rf) _
  refine ez_aload_n (i := 0) dX10_act_0 rfl rfl ?_
  refine ez_getR dX10_act_1 flX10_10 (hF.lt (by decide)) (hF.kc (by decide) rfl) (hF.pt 1 rfl) ?_
  refine ez_iload_n (i := 1) dX10_act_4 rfl rfl ?_
  refine ez_callV (M1 := mX9_at) (rest := []) dX10_act_5 mlX10_235 mvX9_at rfl (hF.lt (by decide)) (hF.kc (by decide) rfl) (Nat.le_of_ble_eq_true rfl) rfl (y_X9_at_in (I := I) (L := L) (d + 39) hF.txt rfl (m := T.tx.length) hK.C.tx.1 hO.txl (k := p) (by omega)) eb_rok ?_
  rintro _ _ ⟨rfl, rfl⟩
  show ez_P _ _ _ _ _ _ 8 [(0, .ref 0), (1, .int (nI p))] (.int (I 2 p) :: []) _ _
  refine ez_topE (y := 116) (by rw [hK.C.tx.2 p (by omega)]; exact hl) ?_
  refine ez_tin (off := 109) (tgt := 117) dX10_act_8 (by decide) (by decide) (by decide) (by decide) ?_
  refine ez_aload_n (i := 0) dX10_act_117 rfl rfl ?_
  refine ez_getR dX10_act_118 flX10_33 (hF.lt (by decide)) (hF.kc (by decide) rfl) (hF.pt 21 rfl) ?_
  refine ez_aload_n (i := 0) dX10_act_121 rfl rfl ?_
  refine ez_getR dX10_act_122 flX10_10 (hF.lt (by decide)) (hF.kc (by decide) rfl) (hF.pt 1 rfl) ?_
  refine ez_iload_n (i := 1) dX10_act_125 rfl rfl ?_
  refine ez_iconst (v := 1) dX10_act_126 (by decide) ?_
  refine ez_iadd dX10_act_127 ?_
  refine ez_topE (y := nI (p + 1)) (nI_add _ _) ?_
  refine ez_callV (M1 := mX9_digit) (rest := [.ref 21]) dX10_act_128 mlX10_257 mvX9_digit rfl (hF.lt (by decide)) (hF.kc (by decide) rfl) (Nat.le_of_ble_eq_true rfl) rfl (y_X9_digit (I := I) (L := L) (d + 38) hF.txt rfl (m := T.tx.length) hK.C.tx.1 hO.txl (k := (p + 1)) (by omega)) eb_rok ?_
  rintro _ _ ⟨rfl, rfl⟩
  show ez_P _ _ _ _ _ _ 131 [(0, .ref 0), (1, .int (nI p))] (.int (I 2 (p + 1) - 48) :: [.ref 21]) _ _
  refine ez_topE (y := T.tt (p + 1) - 48) (by rw [hK.C.tx.2 (p + 1) (by omega)]) ?_
  refine ez_aload_n (i := 0) dX10_act_131 rfl rfl ?_
  refine ez_getR dX10_act_132 flX10_10 (hF.lt (by decide)) (hF.kc (by decide) rfl) (hF.pt 1 rfl) ?_
  refine ez_iload_n (i := 1) dX10_act_135 rfl rfl ?_
  refine ez_iconst (v := 2) dX10_act_136 (by decide) ?_
  refine ez_iadd dX10_act_137 ?_
  refine ez_topE (y := nI (p + 2)) (nI_add _ _) ?_
  refine ez_callV (M1 := mX9_digit) (rest := [.int (T.tt (p + 1) - 48), .ref 21]) dX10_act_138 mlX10_257 mvX9_digit rfl (hF.lt (by decide)) (hF.kc (by decide) rfl) (Nat.le_of_ble_eq_true rfl) rfl (y_X9_digit (I := I) (L := L) (d + 38) hF.txt rfl (m := T.tx.length) hK.C.tx.1 hO.txl (k := (p + 2)) (by omega)) eb_rok ?_
  rintro _ _ ⟨rfl, rfl⟩
  show ez_P _ _ _ _ _ _ 141 [(0, .ref 0), (1, .int (nI p))] (.int (I 2 (p + 2) - 48) :: [.int (T.tt (p + 1) - 48), .ref 21]) _ _
  refine ez_topE (y := T.tt (p + 2) - 48) (by rw [hK.C.tx.2 (p + 2) (by omega)]) ?_
  refine ez_callV (M1 := mX7_tell) (rest := []) dX10_act_141 mlX10_211 mvX7_tell rfl (hF.lt (by decide)) (hF.kc (by decide) rfl) (Nat.le_of_ble_eq_true rfl) rfl (k_tell (I := I) (L := L) (d + 38) hK hO (T.tt (p + 1) - 48) (T.tt (p + 2) - 48)) zpX_ok2 ?_
  rintro _ _ ⟨rfl, I1, rfl, hK1⟩
  show ez_P _ _ _ _ _ _ 144 [(0, .ref 0), (1, .int (nI p))] (.int ((q_tell T (T.tt (p + 1) - 48) (T.tt (p + 2) - 48)).1) :: []) (n, sl, kd, I1, L, Rf) _
  refine ez_iret dX10_act_144 rfl rfl ?_
  exact ⟨_, rfl, Iff.rfl, I1, rfl, hK1⟩
theorem k_act_109 {n : Nat} {sl : Nat × Nat} {kd : Nat → Nat × Nat} {I : Nat → Nat → Int32} {L : Nat → Nat → Int64} {Rf : Nat → Nat → Option Nat} (d : Nat) {T : zT} {H : Nat} {I0 g : Nat → Nat → Int32} {L0 : Nat → Nat → Int64} {R0 : Nat → Nat → Option Nat} {G Bf : Option (Nat → Int32)} {w : Bool} (hK : zK n kd I0 L0 R0 g I L Rf T G Bf w) (hO : zOk H T) (hH : H ≤ 1000000000) {p : Nat} (hl : T.tt p = 109) (hp : p + 4 ≤ T.tx.length) : zq mX10_act (d + 40) [.ref 0, .int (nI p)] (n, sl, kd, I, L, Rf) (zpW n sl kd I0 L0 R0 g L Rf T G Bf (q_move T (T.tt (p + 1) - 48) (z_sg T.tt (p + 2)))) := by
  have hC := hK.C; have hF := hC.F; have hc7 := hO.c
  intro f B
  refine ez_meth pn_X.2.2.2.2.2.2.2.2.2.2.1 (Nat.le_of_ble_eq_true rfl) ?_
  show ez_P _ _ _ _ _ _ 0 [(0, .ref 0), (1, .int (nI p))] [] (n, sl, kd, I, L, Rf) _
  refine ez_aload_n (i := 0) dX10_act_0 rfl rfl ?_
  refine ez_getR dX10_act_1 flX10_10 (hF.lt (by decide)) (hF.kc (by decide) rfl) (hF.pt 1 rfl) ?_
  refine ez_iload_n (i := 1) dX10_act_4 rfl rfl ?_
  refine ez_callV (M1 := mX9_at) (rest := []) dX10_act_5 mlX10_235 mvX9_at rfl (hF.lt (by decide)) (hF.kc (by decide) rfl) (Nat.le_of_ble_eq_true rfl) rfl (y_X9_at_in (I := I) (L := L) (d + 39) hF.txt rfl (m := T.tx.length) hK.C.tx.1 hO.txl (k := p) (by omega)) eb_rok ?_
  rintro _ _ ⟨rfl, rfl⟩
  show ez_P _ _ _ _ _ _ 8 [(0, .ref 0), (1, .int (nI p))] (.int (I 2 p) :: []) _ _
  refine ez_topE (y := 109) (by rw [hK.C.tx.2 p (by omega)]; exact hl) ?_
  refine ez_tin (off := 137) (tgt := 145) dX10_act_8 (by decide) (by decide) (by decide) (by decide) ?_
  refine ez_aload_n (i := 0) dX10_act_145 rfl rfl ?_
  refine ez_getR dX10_act_146 flX10_33 (hF.lt (by decide)) (hF.kc (by decide) rfl) (hF.pt 21 rfl) ?_
  refine ez_aload_n (i := 0) dX10_act_149 rfl rfl ?_
  refine ez_getR dX10_act_150 flX10_10 (hF.lt (by decide)) (hF.kc (by decide) rfl) (hF.pt 1 rfl) ?_
  refine ez_iload_n (i := 1) dX10_act_153 rfl rfl ?_
  refine ez_iconst (v := 1) dX10_act_154 (by decide) ?_
  refine ez_iadd dX10_act_155 ?_
  refine ez_topE (y := nI (p + 1)) (nI_add _ _) ?_
  refine ez_callV (M1 := mX9_digit) (rest := [.ref 21]) dX10_act_156 mlX10_257 mvX9_digit rfl (hF.lt (by decide)) (hF.kc (by decide) rfl) (Nat.le_of_ble_eq_true rfl) rfl (y_X9_digit (I := I) (L := L) (d + 38) hF.txt rfl (m := T.tx.length) hK.C.tx.1 hO.txl (k := (p + 1)) (by omega)) eb_rok ?_
  rintro _ _ ⟨rfl, rfl⟩
  show ez_P _ _ _ _ _ _ 159 [(0, .ref 0), (1, .int (nI p))] (.int (I 2 (p + 1) - 48) :: [.ref 21]) _ _
  refine ez_topE (y := T.tt (p + 1) - 48) (by rw [hK.C.tx.2 (p + 1) (by omega)]) ?_
  refine ez_aload_n (i := 0) dX10_act_159 rfl rfl ?_
  refine ez_getR dX10_act_160 flX10_10 (hF.lt (by decide)) (hF.kc (by decide) rfl) (hF.pt 1 rfl) ?_
  refine ez_iload_n (i := 1) dX10_act_163 rfl rfl ?_
  refine ez_iconst (v := 2) dX10_act_164 (by decide) ?_
  refine ez_iadd dX10_act_165 ?_
  refine ez_topE (y := nI (p + 2)) (nI_add _ _) ?_
  refine ez_callV (M1 := mX9_signed) (rest := [.int (T.tt (p + 1) - 48), .ref 21]) dX10_act_166 mlX10_260 mvX9_signed rfl (hF.lt (by decide)) (hF.kc (by decide) rfl) (Nat.le_of_ble_eq_true rfl) rfl (y_X9_signed (I := I) (L := L) (d + 37) hF.txt rfl (m := T.tx.length) hK.C.tx.1 hO.txl (k := (p + 2)) (by omega)) eb_rok ?_
  rintro _ _ ⟨rfl, rfl⟩
  show ez_P _ _ _ _ _ _ 169 [(0, .ref 0), (1, .int (nI p))] (.int (z_sg (I 2) (p + 2)) :: [.int (T.tt (p + 1) - 48), .ref 21]) _ _
  refine ez_topE (y := z_sg T.tt (p + 2)) (by unfold z_sg; rw [hK.C.tx.2 (p + 2) (by omega), hK.C.tx.2 (p + 2 + 1) (by omega)]) ?_
  refine ez_callV (M1 := mX7_move) (rest := []) dX10_act_169 mlX10_217 mvX7_move rfl (hF.lt (by decide)) (hF.kc (by decide) rfl) (Nat.le_of_ble_eq_true rfl) rfl (k_move (I := I) (L := L) (d + 38) hK hO (T.tt (p + 1) - 48) (z_sg T.tt (p + 2))) zpX_ok2 ?_
  rintro _ _ ⟨rfl, I1, rfl, hK1⟩
  show ez_P _ _ _ _ _ _ 172 [(0, .ref 0), (1, .int (nI p))] (.int ((q_move T (T.tt (p + 1) - 48) (z_sg T.tt (p + 2))).1) :: []) (n, sl, kd, I1, L, Rf) _
  refine ez_iret dX10_act_172 rfl rfl ?_
  exact ⟨_, rfl, Iff.rfl, I1, rfl, hK1⟩
theorem k_act_101 {n : Nat} {sl : Nat × Nat} {kd : Nat → Nat × Nat} {I : Nat → Nat → Int32} {L : Nat → Nat → Int64} {Rf : Nat → Nat → Option Nat} (d : Nat) {T : zT} {H : Nat} {I0 g : Nat → Nat → Int32} {L0 : Nat → Nat → Int64} {R0 : Nat → Nat → Option Nat} {G Bf : Option (Nat → Int32)} {w : Bool} (hK : zK n kd I0 L0 R0 g I L Rf T G Bf w) (hO : zOk H T) (hH : H ≤ 1000000000) {p : Nat} (hl : T.tt p = 101) (hp : p + 2 ≤ T.tx.length) : zq mX10_act (d + 40) [.ref 0, .int (nI p)] (n, sl, kd, I, L, Rf) (zpW n sl kd I0 L0 R0 g L Rf T G Bf (q_ease T (T.tt (p + 1) - 48))) := by
  have hC := hK.C; have hF := hC.F; have hc7 := hO.c
  intro f B
  refine ez_meth pn_X.2.2.2.2.2.2.2.2.2.2.1 (Nat.le_of_ble_eq_true rfl) ?_
  show ez_P _ _ _ _ _ _ 0 [(0, .ref 0), (1, .int (nI p))] [] (n, sl, kd, I, L, Rf) _
  refine ez_aload_n (i := 0) dX10_act_0 rfl rfl ?_
  refine ez_getR dX10_act_1 flX10_10 (hF.lt (by decide)) (hF.kc (by decide) rfl) (hF.pt 1 rfl) ?_
  refine ez_iload_n (i := 1) dX10_act_4 rfl rfl ?_
  refine ez_callV (M1 := mX9_at) (rest := []) dX10_act_5 mlX10_235 mvX9_at rfl (hF.lt (by decide)) (hF.kc (by decide) rfl) (Nat.le_of_ble_eq_true rfl) rfl (y_X9_at_in (I := I) (L := L) (d + 39) hF.txt rfl (m := T.tx.length) hK.C.tx.1 hO.txl (k := p) (by omega)) eb_rok ?_
  rintro _ _ ⟨rfl, rfl⟩
  show ez_P _ _ _ _ _ _ 8 [(0, .ref 0), (1, .int (nI p))] (.int (I 2 p) :: []) _ _
  refine ez_topE (y := 101) (by rw [hK.C.tx.2 p (by omega)]; exact hl) ?_
  refine ez_tin (off := 165) (tgt := 173) dX10_act_8 (by decide) (by decide) (by decide) (by decide) ?_
  refine ez_aload_n (i := 0) dX10_act_173 rfl rfl ?_
  refine ez_getR dX10_act_174 flX10_33 (hF.lt (by decide)) (hF.kc (by decide) rfl) (hF.pt 21 rfl) ?_
  refine ez_aload_n (i := 0) dX10_act_177 rfl rfl ?_
  refine ez_getR dX10_act_178 flX10_10 (hF.lt (by decide)) (hF.kc (by decide) rfl) (hF.pt 1 rfl) ?_
  refine ez_iload_n (i := 1) dX10_act_181 rfl rfl ?_
  refine ez_iconst (v := 1) dX10_act_182 (by decide) ?_
  refine ez_iadd dX10_act_183 ?_
  refine ez_topE (y := nI (p + 1)) (nI_add _ _) ?_
  refine ez_callV (M1 := mX9_digit) (rest := [.ref 21]) dX10_act_184 mlX10_257 mvX9_digit rfl (hF.lt (by decide)) (hF.kc (by decide) rfl) (Nat.le_of_ble_eq_true rfl) rfl (y_X9_digit (I := I) (L := L) (d + 38) hF.txt rfl (m := T.tx.length) hK.C.tx.1 hO.txl (k := (p + 1)) (by omega)) eb_rok ?_
  rintro _ _ ⟨rfl, rfl⟩
  show ez_P _ _ _ _ _ _ 187 [(0, .ref 0), (1, .int (nI p))] (.int (I 2 (p + 1) - 48) :: [.ref 21]) _ _
  refine ez_topE (y := T.tt (p + 1) - 48) (by rw [hK.C.tx.2 (p + 1) (by omega)]) ?_
  refine ez_callV (M1 := mX7_ease) (rest := []) dX10_act_187 mlX10_220 mvX7_ease rfl (hF.lt (by decide)) (hF.kc (by decide) rfl) (Nat.le_of_ble_eq_true rfl) rfl (k_ease (I := I) (L := L) (d + 38) hK hO (T.tt (p + 1) - 48)) zpX_ok2 ?_
  rintro _ _ ⟨rfl, I1, rfl, hK1⟩
  show ez_P _ _ _ _ _ _ 190 [(0, .ref 0), (1, .int (nI p))] (.int ((q_ease T (T.tt (p + 1) - 48)).1) :: []) (n, sl, kd, I1, L, Rf) _
  refine ez_iret dX10_act_190 rfl rfl ?_
  exact ⟨_, rfl, Iff.rfl, I1, rfl, hK1⟩
theorem k_act_112 {n : Nat} {sl : Nat × Nat} {kd : Nat → Nat × Nat} {I : Nat → Nat → Int32} {L : Nat → Nat → Int64} {Rf : Nat → Nat → Option Nat} (d : Nat) {T : zT} {H : Nat} {I0 g : Nat → Nat → Int32} {L0 : Nat → Nat → Int64} {R0 : Nat → Nat → Option Nat} {G Bf : Option (Nat → Int32)} {w : Bool} (hK : zK n kd I0 L0 R0 g I L Rf T G Bf w) (hO : zOk H T) (hH : H ≤ 1000000000) {p : Nat} (hl : T.tt p = 112) (hp : p + 3 ≤ T.tx.length) : zq mX10_act (d + 40) [.ref 0, .int (nI p)] (n, sl, kd, I, L, Rf) (zpW n sl kd I0 L0 R0 g L Rf T G Bf (q_preach T (T.tt (p + 1) - 48) (T.tt (p + 2) - 48))) := by
  have hC := hK.C; have hF := hC.F; have hc7 := hO.c
  intro f B
  refine ez_meth pn_X.2.2.2.2.2.2.2.2.2.2.1 (Nat.le_of_ble_eq_true rfl) ?_
  show ez_P _ _ _ _ _ _ 0 [(0, .ref 0), (1, .int (nI p))] [] (n, sl, kd, I, L, Rf) _
  refine ez_aload_n (i := 0) dX10_act_0 rfl rfl ?_
  refine ez_getR dX10_act_1 flX10_10 (hF.lt (by decide)) (hF.kc (by decide) rfl) (hF.pt 1 rfl) ?_
  refine ez_iload_n (i := 1) dX10_act_4 rfl rfl ?_
  refine ez_callV (M1 := mX9_at) (rest := []) dX10_act_5 mlX10_235 mvX9_at rfl (hF.lt (by decide)) (hF.kc (by decide) rfl) (Nat.le_of_ble_eq_true rfl) rfl (y_X9_at_in (I := I) (L := L) (d + 39) hF.txt rfl (m := T.tx.length) hK.C.tx.1 hO.txl (k := p) (by omega)) eb_rok ?_
  rintro _ _ ⟨rfl, rfl⟩
  show ez_P _ _ _ _ _ _ 8 [(0, .ref 0), (1, .int (nI p))] (.int (I 2 p) :: []) _ _
  refine ez_topE (y := 112) (by rw [hK.C.tx.2 p (by omega)]; exact hl) ?_
  refine ez_tin (off := 183) (tgt := 191) dX10_act_8 (by decide) (by decide) (by decide) (by decide) ?_
  refine ez_aload_n (i := 0) dX10_act_191 rfl rfl ?_
  refine ez_getR dX10_act_192 flX10_33 (hF.lt (by decide)) (hF.kc (by decide) rfl) (hF.pt 21 rfl) ?_
  refine ez_aload_n (i := 0) dX10_act_195 rfl rfl ?_
  refine ez_getR dX10_act_196 flX10_10 (hF.lt (by decide)) (hF.kc (by decide) rfl) (hF.pt 1 rfl) ?_
  refine ez_iload_n (i := 1) dX10_act_199 rfl rfl ?_
  refine ez_iconst (v := 1) dX10_act_200 (by decide) ?_
  refine ez_iadd dX10_act_201 ?_
  refine ez_topE (y := nI (p + 1)) (nI_add _ _) ?_
  refine ez_callV (M1 := mX9_digit) (rest := [.ref 21]) dX10_act_202 mlX10_257 mvX9_digit rfl (hF.lt (by decide)) (hF.kc (by decide) rfl) (Nat.le_of_ble_eq_true rfl) rfl (y_X9_digit (I := I) (L := L) (d + 38) hF.txt rfl (m := T.tx.length) hK.C.tx.1 hO.txl (k := (p + 1)) (by omega)) eb_rok ?_
  rintro _ _ ⟨rfl, rfl⟩
  show ez_P _ _ _ _ _ _ 205 [(0, .ref 0), (1, .int (nI p))] (.int (I 2 (p + 1) - 48) :: [.ref 21]) _ _
  refine ez_topE (y := T.tt (p + 1) - 48) (by rw [hK.C.tx.2 (p + 1) (by omega)]) ?_
  refine ez_aload_n (i := 0) dX10_act_205 rfl rfl ?_
  refine ez_getR dX10_act_206 flX10_10 (hF.lt (by decide)) (hF.kc (by decide) rfl) (hF.pt 1 rfl) ?_
  refine ez_iload_n (i := 1) dX10_act_209 rfl rfl ?_
  refine ez_iconst (v := 2) dX10_act_210 (by decide) ?_
  refine ez_iadd dX10_act_211 ?_
  refine ez_topE (y := nI (p + 2)) (nI_add _ _) ?_
  refine ez_callV (M1 := mX9_digit) (rest := [.int (T.tt (p + 1) - 48), .ref 21]) dX10_act_212 mlX10_257 mvX9_digit rfl (hF.lt (by decide)) (hF.kc (by decide) rfl) (Nat.le_of_ble_eq_true rfl) rfl (y_X9_digit (I := I) (L := L) (d + 38) hF.txt rfl (m := T.tx.length) hK.C.tx.1 hO.txl (k := (p + 2)) (by omega)) eb_rok ?_
  rintro _ _ ⟨rfl, rfl⟩
  show ez_P _ _ _ _ _ _ 215 [(0, .ref 0), (1, .int (nI p))] (.int (I 2 (p + 2) - 48) :: [.int (T.tt (p + 1) - 48), .ref 21]) _ _
  refine ez_topE (y := T.tt (p + 2) - 48) (by rw [hK.C.tx.2 (p + 2) (by omega)]) ?_
  refine ez_callV (M1 := mX7_preach) (rest := []) dX10_act_215 mlX10_223 mvX7_preach rfl (hF.lt (by decide)) (hF.kc (by decide) rfl) (Nat.le_of_ble_eq_true rfl) rfl (k_preach (I := I) (L := L) (d + 38) hK hO (T.tt (p + 1) - 48) (T.tt (p + 2) - 48)) zpX_ok2 ?_
  rintro _ _ ⟨rfl, I1, rfl, hK1⟩
  show ez_P _ _ _ _ _ _ 218 [(0, .ref 0), (1, .int (nI p))] (.int ((q_preach T (T.tt (p + 1) - 48) (T.tt (p + 2) - 48)).1) :: []) (n, sl, kd, I1, L, Rf) _
  refine ez_iret dX10_act_218 rfl rfl ?_
  exact ⟨_, rfl, Iff.rfl, I1, rfl, hK1⟩
theorem k_act_115 {n : Nat} {sl : Nat × Nat} {kd : Nat → Nat × Nat} {I : Nat → Nat → Int32} {L : Nat → Nat → Int64} {Rf : Nat → Nat → Option Nat} (d : Nat) {T : zT} {H : Nat} {I0 g : Nat → Nat → Int32} {L0 : Nat → Nat → Int64} {R0 : Nat → Nat → Option Nat} {G Bf : Option (Nat → Int32)} {w : Bool} (hK : zK n kd I0 L0 R0 g I L Rf T G Bf w) (hO : zOk H T) (hH : H ≤ 1000000000) {p : Nat} (hl : T.tt p = 115) (hp : p + 2 ≤ T.tx.length) : zq mX10_act (d + 40) [.ref 0, .int (nI p)] (n, sl, kd, I, L, Rf) (zpW n sl kd I0 L0 R0 g L Rf T G Bf (q_sail T (T.tt (p + 1) - 48))) := by
  have hC := hK.C; have hF := hC.F; have hc7 := hO.c
  intro f B
  refine ez_meth pn_X.2.2.2.2.2.2.2.2.2.2.1 (Nat.le_of_ble_eq_true rfl) ?_
  show ez_P _ _ _ _ _ _ 0 [(0, .ref 0), (1, .int (nI p))] [] (n, sl, kd, I, L, Rf) _
  refine ez_aload_n (i := 0) dX10_act_0 rfl rfl ?_
  refine ez_getR dX10_act_1 flX10_10 (hF.lt (by decide)) (hF.kc (by decide) rfl) (hF.pt 1 rfl) ?_
  refine ez_iload_n (i := 1) dX10_act_4 rfl rfl ?_
  refine ez_callV (M1 := mX9_at) (rest := []) dX10_act_5 mlX10_235 mvX9_at rfl (hF.lt (by decide)) (hF.kc (by decide) rfl) (Nat.le_of_ble_eq_true rfl) rfl (y_X9_at_in (I := I) (L := L) (d + 39) hF.txt rfl (m := T.tx.length) hK.C.tx.1 hO.txl (k := p) (by omega)) eb_rok ?_
  rintro _ _ ⟨rfl, rfl⟩
  show ez_P _ _ _ _ _ _ 8 [(0, .ref 0), (1, .int (nI p))] (.int (I 2 p) :: []) _ _
  refine ez_topE (y := 115) (by rw [hK.C.tx.2 p (by omega)]; exact hl) ?_
  refine ez_tin (off := 211) (tgt := 219) dX10_act_8 (by decide) (by decide) (by decide) (by decide) ?_
  refine ez_aload_n (i := 0) dX10_act_219 rfl rfl ?_
  refine ez_getR dX10_act_220 flX10_33 (hF.lt (by decide)) (hF.kc (by decide) rfl) (hF.pt 21 rfl) ?_
  refine ez_aload_n (i := 0) dX10_act_223 rfl rfl ?_
  refine ez_getR dX10_act_224 flX10_10 (hF.lt (by decide)) (hF.kc (by decide) rfl) (hF.pt 1 rfl) ?_
  refine ez_iload_n (i := 1) dX10_act_227 rfl rfl ?_
  refine ez_iconst (v := 1) dX10_act_228 (by decide) ?_
  refine ez_iadd dX10_act_229 ?_
  refine ez_topE (y := nI (p + 1)) (nI_add _ _) ?_
  refine ez_callV (M1 := mX9_digit) (rest := [.ref 21]) dX10_act_230 mlX10_257 mvX9_digit rfl (hF.lt (by decide)) (hF.kc (by decide) rfl) (Nat.le_of_ble_eq_true rfl) rfl (y_X9_digit (I := I) (L := L) (d + 38) hF.txt rfl (m := T.tx.length) hK.C.tx.1 hO.txl (k := (p + 1)) (by omega)) eb_rok ?_
  rintro _ _ ⟨rfl, rfl⟩
  show ez_P _ _ _ _ _ _ 233 [(0, .ref 0), (1, .int (nI p))] (.int (I 2 (p + 1) - 48) :: [.ref 21]) _ _
  refine ez_topE (y := T.tt (p + 1) - 48) (by rw [hK.C.tx.2 (p + 1) (by omega)]) ?_
  refine ez_callV (M1 := mX7_setSail) (rest := []) dX10_act_233 mlX10_226 mvX7_setSail rfl (hF.lt (by decide)) (hF.kc (by decide) rfl) (Nat.le_of_ble_eq_true rfl) rfl (k_sail (I := I) (L := L) (d + 38) hK hO (T.tt (p + 1) - 48)) zpX_ok2 ?_
  rintro _ _ ⟨rfl, I1, rfl, hK1⟩
  show ez_P _ _ _ _ _ _ 236 [(0, .ref 0), (1, .int (nI p))] (.int ((q_sail T (T.tt (p + 1) - 48)).1) :: []) (n, sl, kd, I1, L, Rf) _
  refine ez_iret dX10_act_236 rfl rfl ?_
  exact ⟨_, rfl, Iff.rfl, I1, rfl, hK1⟩
theorem k_act_110 {n : Nat} {sl : Nat × Nat} {kd : Nat → Nat × Nat} {I : Nat → Nat → Int32} {L : Nat → Nat → Int64} {Rf : Nat → Nat → Option Nat} (d : Nat) {T : zT} {H : Nat} {I0 g : Nat → Nat → Int32} {L0 : Nat → Nat → Int64} {R0 : Nat → Nat → Option Nat} {G Bf : Option (Nat → Int32)} {w : Bool} (hK : zK n kd I0 L0 R0 g I L Rf T G Bf w) (hO : zOk H T) (hH : H ≤ 1000000000) {p v : Nat} (hl : T.tt p = 110) (hp : p + 2 ≤ T.tx.length) (hv10 : v < 10) (hv : T.tt (p + 1) - 48 = nI v) (f : Nat) (B : Nat → Int32) : ez_Q (f + 1) B f (fun _ => True) mX10_act (d + 40) [.ref 0, .int (nI p)] (n, sl, kd, I, L, Rf) (zpW n sl kd I0 L0 R0 g L Rf T G Bf (0, zhk T T.x v)) := by
  have hC := hK.C; have hF := hC.F; have hc7 := hO.c
  refine ez_meth pn_X.2.2.2.2.2.2.2.2.2.2.1 (Nat.le_of_ble_eq_true rfl) ?_
  show ez_P _ _ _ _ _ _ 0 [(0, .ref 0), (1, .int (nI p))] [] (n, sl, kd, I, L, Rf) _
  refine ez_aload_n (i := 0) dX10_act_0 rfl rfl ?_
  refine ez_getR dX10_act_1 flX10_10 (hF.lt (by decide)) (hF.kc (by decide) rfl) (hF.pt 1 rfl) ?_
  refine ez_iload_n (i := 1) dX10_act_4 rfl rfl ?_
  refine ez_callV (M1 := mX9_at) (rest := []) dX10_act_5 mlX10_235 mvX9_at rfl (hF.lt (by decide)) (hF.kc (by decide) rfl) (Nat.le_of_ble_eq_true rfl) rfl (y_X9_at_in (I := I) (L := L) (d + 39) hF.txt rfl (m := T.tx.length) hK.C.tx.1 hO.txl (k := p) (by omega)) eb_rok ?_
  rintro _ _ ⟨rfl, rfl⟩
  show ez_P _ _ _ _ _ _ 8 [(0, .ref 0), (1, .int (nI p))] (.int (I 2 p) :: []) _ _
  refine ez_topE (y := 110) (by rw [hK.C.tx.2 p (by omega)]; exact hl) ?_
  refine ez_tin (off := 80) (tgt := 88) dX10_act_8 (by decide) (by decide) (by decide) (by decide) ?_
  refine ez_aload_n (i := 0) dX10_act_88 rfl rfl ?_
  refine ez_getR dX10_act_89 flX10_26 (hF.lt (by decide)) (hF.kc (by decide) rfl) (hF.pt 4 rfl) ?_
  refine ez_callVm (M1 := mX6_begin) (rest := []) dX10_act_92 mlX10_192 mvX6_begin rfl (hF.lt (by decide)) (hF.kc (by decide) rfl) (Nat.le_of_ble_eq_true rfl) rfl (k_begin (T := T) (I := I) (L := L) (d + 39) hK.C (f + 0) _ (zBm T T.x)) (eb_vok rfl) ?_
  rintro _ _ _ rfl ⟨rfl, rfl⟩
  show ez_P _ _ _ _ _ _ 95 [(0, .ref 0), (1, .int (nI p))] [] (n, sl, kd, I, L, Rf) _
  refine ez_aload_n (i := 0) dX10_act_95 rfl rfl ?_
  refine ez_getR dX10_act_96 flX10_26 (hF.lt (by decide)) (hF.kc (by decide) rfl) (hF.pt 4 rfl) ?_
  refine ez_aload_n (i := 0) dX10_act_99 rfl rfl ?_
  refine ez_getR dX10_act_100 flX10_33 (hF.lt (by decide)) (hF.kc (by decide) rfl) (hF.pt 21 rfl) ?_
  refine ez_aload_n (i := 0) dX10_act_103 rfl rfl ?_
  refine ez_getR dX10_act_104 flX10_10 (hF.lt (by decide)) (hF.kc (by decide) rfl) (hF.pt 1 rfl) ?_
  refine ez_iload_n (i := 1) dX10_act_107 rfl rfl ?_
  refine ez_iconst (v := 1) dX10_act_108 (by decide) ?_
  refine ez_iadd dX10_act_109 ?_
  refine ez_topE (y := nI (p + 1)) (nI_add _ _) ?_
  refine ez_callV (M1 := mX9_digit) (rest := [.ref 21, .ref 5]) dX10_act_110 mlX10_257 mvX9_digit rfl (hF.lt (by decide)) (hF.kc (by decide) rfl) (Nat.le_of_ble_eq_true rfl) rfl (y_X9_digit (I := I) (L := L) (d + 38) hF.txt rfl (m := T.tx.length) hK.C.tx.1 hO.txl (k := (p + 1)) (by omega)) eb_rok ?_
  rintro _ _ ⟨rfl, rfl⟩
  show ez_P _ _ _ _ _ _ 113 [(0, .ref 0), (1, .int (nI p))] (.int (I 2 (p + 1) - 48) :: [.ref 21, .ref 5]) _ _
  refine ez_topE (y := nI v) (by rw [hK.C.tx.2 (p + 1) (by omega)]; exact hv) ?_
  refine ez_callVm (M1 := mX6_letHoursGo) (rest := []) dX10_act_113 mlX10_195 mvX6_letHoursGo rfl (hF.lt (by decide)) (hF.kc (by decide) rfl) (Nat.le_of_ble_eq_true rfl) rfl (k_let (T := T) (I := I) (L := L) (d + 34) hK.C hO (j := 21) (by decide) hK.C.sh hO.x (by omega) (N := v) (by omega) (y := T.x) (fun _ _ => rfl) (f + 0)) k_hp_ok ?_
  rintro _ _ _ rfl ⟨rfl, I1, rfl, hs2, hn3⟩
  show ez_P _ _ _ _ _ _ 116 [(0, .ref 0), (1, .int (nI p))] (.int (zhc T T.x v) :: []) (n, sl, kd, I1, L, Rf) _
  have hK4 : zK n kd I0 L0 R0 g I1 L Rf (T.w_x (zhk T T.x v)) G Bf false := by exact hK.sh hs2 (fun c hc => hn3 c (by omega))
  refine ez_iret dX10_act_116 rfl rfl ?_
  obtain ⟨q9, hq9, e9⟩ := zhc_k (T := T) (x := T.x) v
  exact ⟨_, rfl, ⟨fun g => absurd g (by rw [e9]; exact Int32.not_lt.mpr (nI_pos' (by omega))), fun g => absurd g (show ¬ ((0 : Int32) < 0) by decide)⟩, _, rfl, hK4⟩
theorem k_act {n : Nat} {sl : Nat × Nat} {kd : Nat → Nat × Nat} {I : Nat → Nat → Int32} {L : Nat → Nat → Int64} {Rf : Nat → Nat → Option Nat} (d : Nat) {T : zT} {H : Nat} {I0 g : Nat → Nat → Int32} {L0 : Nat → Nat → Int64} {R0 : Nat → Nat → Option Nat} {G Bf : Option (Nat → Int32)} {w : Bool} (hK : zK n kd I0 L0 R0 g I L Rf T G Bf w) (hO : zOk H T) (hH : H ≤ 1000000000) {p : Nat} (hl : ¬ z_fa (T.tt p) = 4) (hp : p + z_ln (z_fa (T.tt p)) ≤ T.tx.length) (hv : ∃ v, v < 10 ∧ T.tt (p + 1) - 48 = nI v) (f : Nat) (B : Nat → Int32) : ez_Q (f + 1) B f (fun _ => True) mX10_act (d + 40) [.ref 0, .int (nI p)] (n, sl, kd, I, L, Rf) (zpW n sl kd I0 L0 R0 g L Rf T G Bf (q_act T (T.tt p) (T.tt (p + 1) - 48) (z_a2 T.tt p))) := by
  unfold q_act z_a2
  by_cases h1 : T.tt p = 110
  · rw [if_pos h1]; obtain ⟨v, hv1, hv2⟩ := hv; rw [hv2, nI_clamp (by omega)]; exact k_act_110 d hK hO hH h1 (by rw [h1] at hp; exact hp) hv1 hv2 f B
  rw [if_neg h1]
  by_cases h2 : T.tt p = 116
  · rw [if_pos h2, if_neg (by rw [h2]; decide)]; exact (k_act_116 d hK hO hH h2 (by rw [h2] at hp; exact hp)).fu f 1 B
  rw [if_neg h2]
  by_cases h3 : T.tt p = 109
  · rw [if_pos h3, if_pos h3]; exact (k_act_109 d hK hO hH h3 (by rw [h3] at hp; exact hp)).fu f 1 B
  rw [if_neg h3]
  by_cases h4 : T.tt p = 101
  · rw [if_pos h4]; exact (k_act_101 d hK hO hH h4 (by rw [h4] at hp; exact hp)).fu f 1 B
  rw [if_neg h4]
  by_cases h5 : T.tt p = 112
  · rw [if_pos h5, if_neg h3]; exact (k_act_112 d hK hO hH h5 (by rw [h5] at hp; exact hp)).fu f 1 B
  rw [if_neg h5]
  by_cases h6 : T.tt p = 115
  · exact (k_act_115 d hK hO hH h6 (by rw [h6] at hp; exact hp)).fu f 1 B
  · exact absurd (z_fa_4 h1 h2 h3 h4 h5 h6) hl
