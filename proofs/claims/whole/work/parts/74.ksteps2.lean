/-! steps on the class: the search by brothers and thoughts is the search by codes -/
theorem zfb_add {α : Type} {f : Nat → Option α} (m n k : Nat) : zfb f (m + n) k = match zfb f m k with
    | some x => some x
    | none => zfb f n (k + m) := by
  induction m generalizing k with
  | zero => rw [Nat.zero_add]; rfl
  | succ m ih =>
    rw [show m + 1 + n = (m + n) + 1 from by omega]
    cases e : f k with
    | some x => rw [zfb_s e, zfb_s e]
    | none => rw [zfb_n e, zfb_n e, ih, show k + 1 + m = k + (m + 1) from by omega]
theorem zfb_cg {α : Type} {f g : Nat → Option α} : ∀ n k, (∀ i, k ≤ i → i < k + n → f i = g i) → zfb f n k = zfb g n k := by
  intro n
  induction n with
  | zero => intro k _; rfl
  | succ n ih => intro k h; rw [zfb, zfb, h k (Nat.le_refl _) (by omega), ih (k + 1) (fun i h1 h2 => h i (by omega) (by omega))]
theorem zfb_no {α : Type} {f : Nat → Option α} : ∀ n k, (∀ i, k ≤ i → i < k + n → f i = none) → zfb f n k = none := by
  intro n
  induction n with
  | zero => intro k _; rfl
  | succ n ih => intro k h; rw [zfb_n (h k (Nat.le_refl _) (by omega)), ih (k + 1) (fun i h1 h2 => h i (by omega) (by omega))]
theorem zfb_sh {α : Type} {f : Nat → Option α} (k0 : Nat) : ∀ n k, zfb f n (k0 + k) = zfb (fun t => f (k0 + t)) n k := by
  intro n
  induction n with
  | zero => intro k; rfl
  | succ n ih => intro k; rw [zfb, zfb, show k0 + k + 1 = k0 + (k + 1) from rfl, ih (k + 1)]
theorem zfb_mp {α β : Type} {f : Nat → Option α} (g : α → β) : ∀ n k, zfb (fun t => (f t).map g) n k = (zfb f n k).map g := by
  intro n
  induction n with
  | zero => intro k; rfl
  | succ n ih =>
    intro k
    cases e : f k with
    | some x => rw [zfb_s e, zfb_s (f := fun t => (f t).map g) (x := g x) (by show (f k).map g = _; rw [e]; rfl)]; rfl
    | none => rw [zfb_n e, zfb_n (f := fun t => (f t).map g) (by show (f k).map g = _; rw [e]; rfl), ih]
theorem zfb_10 {α : Type} {f : Nat → Option α} : ∀ n k, zfb f (10 * n) (10 * k) = zfb (fun b => zfb f 10 (10 * b)) n k := by
  intro n
  induction n with
  | zero => intro k; rfl
  | succ n ih =>
    intro k
    rw [show 10 * (n + 1) = 10 + 10 * n from by omega, zfb_add, show 10 * k + 10 = 10 * (k + 1) from by omega, ih]
    rfl
/-- of ten codes, six are thoughts -/
theorem zfb_6 {α : Type} {f g : Nat → Option α} {b : Nat} (h6 : ∀ t, t < 6 → f (10 * b + t) = g t) (h9 : ∀ t, 6 ≤ t → t < 10 → f (10 * b + t) = none) : zfb f 10 (10 * b) = zfb g 6 0 := by
  have h := zfb_sh (f := f) (10 * b) 10 0
  rw [show 10 * b + 0 = 10 * b from rfl] at h
  rw [h, zfb_add 6 4 0, zfb_no 4 (0 + 6) (fun i h1 h2 => h9 i (by omega) (by omega)), zfb_cg (g := g) 6 0 (fun i _ h2 => h6 i (by omega))]
  cases zfb g 6 0 <;> rfl
theorem f1_h1 {T : zT} {v : Int32} {b : Nat} (hb : b < T.c) : zfb (f1 T v) 10 (10 * b) = h1 T v b := by
  unfold h1
  rw [← zfb_mp]
  refine zfb_6 (fun t ht => ?_) (fun t ht1 ht2 => ?_)
  · unfold f1 pt
    have e1 : (10 * b + t) / 10 = b := by omega
    have e2 : (10 * b + t) % 10 = t := by omega
    by_cases h : ¬ nI t = T.x (7 + b) ∧ z_ab (zpl T (zup T.x (7 + b) (nI t))) ≤ v
    · rw [if_pos h, if_pos ⟨⟨by rw [e1]; exact hb, by rw [e2]; exact ht, by rw [e1, e2]; exact fun e => h.1 e.symm⟩, by rw [e1, e2]; exact h.2⟩]; rfl
    · rw [if_neg h, if_neg (fun g => h ⟨by have := g.1.2.2; rw [e1, e2] at this; exact fun e => this e.symm, by have := g.2; rw [e1, e2] at this; exact this⟩)]; rfl
  · unfold f1; rw [if_neg (fun g => absurd g.1.2.1 (by omega))]
theorem s_one {T : zT} {v : Int32} : zfb (f1 T v) (10 * T.c) 0 = zfb (h1 T v) T.c 0 := by
  have h := zfb_10 (f := f1 T v) T.c 0
  rw [show 10 * 0 = 0 from rfl] at h
  rw [h]
  exact zfb_cg _ _ (fun i _ h2 => f1_h1 (by omega))
theorem f2_h2 {T : zT} {v : Int32} {a b2 : Nat} (ha : ztl T a) (hb : b2 < T.c) : zfb (f2 T v a) 10 (10 * b2) = h2 T v (zup T.x (7 + a / 10) (nI (a % 10))) b2 := by
  unfold h2
  rw [← zfb_mp]
  refine zfb_6 (fun t ht => ?_) (fun t ht1 ht2 => ?_)
  · unfold f2 pt
    have e1 : (10 * b2 + t) / 10 = b2 := by omega
    have e2 : (10 * b2 + t) % 10 = t := by omega
    by_cases h : ¬ nI t = T.x (7 + b2) ∧ z_ab (zpl T (zup (zup T.x (7 + a / 10) (nI (a % 10))) (7 + b2) (nI t))) ≤ v
    · rw [if_pos h, if_pos ⟨⟨ha, by rw [e1]; exact hb, by rw [e2]; exact ht, by rw [e1, e2]; exact fun e => h.1 e.symm⟩, by rw [e1, e2]; exact h.2⟩]; rfl
    · rw [if_neg h, if_neg (fun g => h ⟨by have := g.1.2.2.2; rw [e1, e2] at this; exact fun e => this e.symm, by have := g.2; rw [e1, e2] at this; exact this⟩)]; rfl
  · unfold f2; rw [if_neg (fun g => absurd g.1.2.2.1 (by omega))]
theorem f2_no {T : zT} {v : Int32} {a : Nat} (ha : ¬ ztl T a) (n k : Nat) : zfb (f2 T v a) n k = none := zfb_no n k (fun i _ _ => by unfold f2; rw [if_neg (fun g => ha g.1.1)])
theorem g2_l2 {T : zT} {v : Int32} {b : Nat} (hb : b < T.c) : zfb (g2 T v) 10 (10 * b) = l2 T v b := by
  unfold l2
  refine zfb_6 (fun t ht => ?_) (fun t ht1 ht2 => ?_)
  · unfold g2 k2
    rw [show (10 * b + t) / 10 = b from by omega]
    by_cases h : nI t = T.x (7 + b)
    · rw [if_pos h, f2_no (fun g => g.2.2 (by rw [show (10 * b + t) / 10 = b from by omega, show (10 * b + t) % 10 = t from by omega]; exact h.symm))]; rfl
    · rw [if_neg h]
      have ha : ztl T (10 * b + t) := ⟨by omega, by omega, by rw [show (10 * b + t) / 10 = b from by omega, show (10 * b + t) % 10 = t from by omega]; exact fun e => h e.symm⟩
      rw [show 10 * T.c - 10 * (b + 1) = 10 * (T.c - (b + 1)) from by omega, zfb_10, zfb_cg (g := h2 T v (zup T.x (7 + b) (nI t))) _ _ (fun i h1 h2 => by have := f2_h2 (v := v) (b2 := i) ha (by omega); rw [show (10 * b + t) / 10 = b from by omega, show (10 * b + t) % 10 = t from by omega] at this; exact this)]
  · unfold g2; rw [f2_no (fun g => absurd g.2.1 (by omega))]; rfl
theorem s_two {T : zT} {v : Int32} : zfb (g2 T v) (10 * T.c) 0 = zfb (l2 T v) T.c 0 := by
  have h := zfb_10 (f := g2 T v) T.c 0
  rw [show 10 * 0 = 0 from rfl] at h
  rw [h]
  exact zfb_cg _ _ (fun i _ h2 => g2_l2 (by omega))
theorem c_steps_ok {n : Nat} {sl : Nat × Nat} {kd : Nat → Nat × Nat} {I : Nat → Nat → Int32} {L : Nat → Nat → Int64} {Rf : Nat → Nat → Option Nat} (d : Nat) {T : zT} {H : Nat} (hC : zC n kd I L Rf T) (hO : zOk H T) (hH : H ≤ 1000000000) {v : Int32} (hn : 0 ≤ v ∧ v ≤ 20) (f : Nat) (B : Nat → Int32) : ez_Q (f + 100) B f (fun _ => True) mX10_steps (d + 60) [.ref 0, .int v] (n, sl, kd, I, L, Rf) (zpC n sl kd I L Rf (some (.int (s_steps T v).1)) (s_steps T v).2) := by
  have hF := hC.F; have hc7 := hO.c
  have hK0 : zK n kd I L Rf I I L Rf T none none false := zK.start hC
  refine ez_meth pn_X.2.2.2.2.2.2.2.2.2.2.1 (Nat.le_of_ble_eq_true rfl) ?_
  show ez_P _ _ _ _ _ _ 0 [(0, .ref 0), (1, .int v)] [] (n, sl, kd, I, L, Rf) _
  refine ez_iload_n (i := 1) dX10_steps_0 rfl rfl ?_
  refine ez_iconst (v := 0) dX10_steps_1 (by decide) ?_
  refine ez_bipush (v := 20) dX10_steps_2 (by decide) ?_
  refine ez_callS (M1 := mX10_within) (rest := []) dX10_steps_4 mlX10_158 msX10_within rfl (Nat.le_of_ble_eq_true rfl) rfl (zq_b1 hn (zq_b (q_X10_within (d + 59) v 0 20) (n, sl, kd, I, L, Rf))) eb_rok ?_
  rintro _ _ ⟨rfl, rfl⟩
  show ez_P _ _ _ _ _ _ 7 [(0, .ref 0), (1, .int v)] (.int 1 :: []) _ _
  refine ez_if_ne (tgt := 12) dX10_steps_7 (by decide) (fun c1 => ?_) (fun c1 => absurd (by decide) c1)
  refine ez_aload_n (i := 0) dX10_steps_12 rfl rfl ?_
  refine ez_aload_n (i := 0) dX10_steps_13 rfl rfl ?_
  refine ez_getR dX10_steps_14 flX10_26 (hF.lt (by decide)) (hF.kc (by decide) rfl) (hF.pt 4 rfl) ?_
  refine ez_aload_n (i := 0) dX10_steps_17 rfl rfl ?_
  refine ez_getR dX10_steps_18 flX10_33 (hF.lt (by decide)) (hF.kc (by decide) rfl) (hF.pt 21 rfl) ?_
  refine ez_callVm (M1 := mX6_ballast) (rest := [.ref 0]) dX10_steps_21 mlX10_290 mvX6_ballast rfl (hF.lt (by decide)) (hF.kc (by decide) rfl) (Nat.le_of_ble_eq_true rfl) rfl (k_ballast (T := T) (I := I) (L := L) (d + 54) hK0.C hO (j := 21) (by decide) hK0.C.sh hO.x (by omega) (f + 99) _) eb_rok ?_
  rintro _ _ C2 _ ⟨rfl, rfl⟩
  show ez_P _ _ _ _ _ _ 24 [(0, .ref 0), (1, .int v)] (.int (zst T T.x) :: [.ref 0]) (n, sl, kd, I, L, Rf) _
  refine ez_callV (M1 := mX10_pullByBallast) (rest := []) dX10_steps_24 mlX10_294 mvX10_pullByBallast rfl (hF.lt (by decide)) (hF.kc (by decide) rfl) (Nat.le_of_ble_eq_true rfl) rfl (k_pbb (T := T) (I := I) (L := L) (d + 39) hK0.C hO hH (zst T T.x)) eb_rok ?_
  rintro _ _ ⟨rfl, rfl⟩
  show ez_P _ _ _ _ _ _ 27 [(0, .ref 0), (1, .int v)] (.int (z_pull (zst T T.x) (zhw T T.x) (T.x 21)) :: []) _ _
  refine ez_topE (y := zpl T T.x) rfl ?_
  refine ez_abs dX10_steps_27 xmX10_287 (Nat.le_of_ble_eq_true rfl) ?_
  refine ez_topE (y := z_ab (zpl T T.x)) rfl ?_
  refine ez_iload_n (i := 1) dX10_steps_30 rfl rfl ?_
  refine ez_icmp_gt (tgt := 43) dX10_steps_31 (by decide) (fun c3 => ?_) (fun c3 => ?_)
  · skip
    refine ez_aload_n (i := 0) dX10_steps_43 rfl rfl ?_
    refine ez_getR dX10_steps_44 flX10_37 (hF.lt (by decide)) (hF.kc (by decide) rfl) (hF.pt 25 rfl) ?_
    refine ez_aload_n (i := 0) dX10_steps_47 rfl rfl ?_
    refine ez_getR dX10_steps_48 flX10_33 (hF.lt (by decide)) (hF.kc (by decide) rfl) (hF.pt 21 rfl) ?_
    refine ez_callV (M1 := mX7_copy) (rest := []) dX10_steps_51 mlX10_188 mvX7_copy rfl (hF.lt (by decide)) (hF.kc (by decide) rfl) (Nat.le_of_ble_eq_true rfl) rfl (y_X7_copy (I := I) (L := L) (d + 59) (i := 25) (j := 21) (hF.shp (by decide)) (by decide) (hF.shp (by decide)) (by decide) (by decide) hK0.C.sh.cr hO.c) (eb_vok rfl) ?_
    rintro _ _ ⟨rfl, rfl⟩
    refine ez_nmI (fun I4 hI4 => ?_)
    show ez_P _ _ _ _ _ _ 54 [(0, .ref 0), (1, .int v)] [] (n, sl, kd, I4, L, Rf) _
    have hK5 : zK n kd I L Rf I I4 L Rf T (some T.x) none false := by rw [hI4]; exact hK0.cpg
    refine ez_aload_n (i := 0) dX10_steps_54 rfl rfl ?_
    refine ez_callV (M1 := mX10_weighAllIfTold) (rest := []) dX10_steps_55 mlX10_298 mvX10_weighAllIfTold rfl (hF.lt (by decide)) (hF.kc (by decide) rfl) (Nat.le_of_ble_eq_true rfl) rfl (k_wit (T := T) (I := I4) (L := L) (d + 39) hK5 hO hH) zpKg_ok ?_
    rintro _ _ ⟨rfl, I6, gw, rfl, hK7, hg⟩
    show ez_P _ _ _ _ _ _ 58 [(0, .ref 0), (1, .int v)] [] (n, sl, kd, I6, L, Rf) _
    have hK7 : zK n kd I L Rf gw I6 L Rf T (some T.x) none false := hK7
    refine ez_aload_n (i := 0) dX10_steps_58 rfl rfl ?_
    refine ez_iload_n (i := 1) dX10_steps_59 rfl rfl ?_
    refine ez_callV (M1 := mX10_oneStep) (rest := []) dX10_steps_60 mlX10_301 mvX10_oneStep rfl (hF.lt (by decide)) (hF.kc (by decide) rfl) (Nat.le_of_ble_eq_true rfl) rfl (k_one (T := T) (I := I6) (L := L) (d + 29) hK7 hO hH hg v) zpT2_ok ?_
    cases e1 : zfb (h1 T v) T.c 0 with
    | some a1 =>
      rintro _ _ ⟨rfl, I8, L10, G1, rfl, hK9⟩
      show ez_P _ _ _ _ _ _ 63 [(0, .ref 0), (1, .int v)] (.int 1 :: []) (n, sl, kd, I8, L10, Rf) _
      have hK9 : zK n kd I L Rf gw I8 L10 Rf (T.w_rw [(nI a1).toInt64]) G1 none false := hK9
      refine ez_if_eq (tgt := 68) dX10_steps_63 (by decide) (fun c11 => absurd c11 (by decide)) (fun c11 => ?_)
      refine ez_iconst (v := 1) dX10_steps_66 (by decide) ?_
      refine ez_iret dX10_steps_67 rfl rfl ?_
      rw [show s_steps T v = (1, T.w_rw [(nI a1).toInt64]) from by unfold s_steps; rw [if_pos hn, if_neg (Int32.not_le.mpr c3), s_one, e1]]
      exact hK9.end
    | none =>
      rintro _ _ ⟨rfl, I12, rfl, hK13⟩
      show ez_P _ _ _ _ _ _ 63 [(0, .ref 0), (1, .int v)] (.int 0 :: []) (n, sl, kd, I12, L, Rf) _
      have hK13 : zK n kd I L Rf gw I12 L Rf T (some T.x) none false := hK13
      refine ez_if_eq (tgt := 68) dX10_steps_63 (by decide) (fun c14 => ?_) (fun c14 => absurd (by decide) c14)
      refine ez_aload_n (i := 0) dX10_steps_68 rfl rfl ?_
      refine ez_iload_n (i := 1) dX10_steps_69 rfl rfl ?_
      refine ez_callV (M1 := mX10_twoSteps) (rest := []) dX10_steps_70 mlX10_304 mvX10_twoSteps rfl (hF.lt (by decide)) (hF.kc (by decide) rfl) (Nat.le_of_ble_eq_true rfl) rfl (k_tws (T := T) (I := I12) (L := L) (d + 24) hK13 hO hH hg v) zpT2_ok ?_
      cases e3 : zfb (l2 T v) T.c 0 with
      | some p1 =>
        rintro _ _ ⟨rfl, I15, L17, G1, rfl, hK16⟩
        show ez_P _ _ _ _ _ _ 73 [(0, .ref 0), (1, .int v)] (.int 1 :: []) (n, sl, kd, I15, L17, Rf) _
        have hK16 : zK n kd I L Rf gw I15 L17 Rf (T.w_rw [(nI p1.1).toInt64, (nI p1.2).toInt64]) G1 none false := hK16
        refine ez_if_eq (tgt := 80) dX10_steps_73 (by decide) (fun c18 => absurd c18 (by decide)) (fun c18 => ?_)
        refine ez_iconst (v := 2) dX10_steps_76 (by decide) ?_
        refine ez_goto (tgt := 82) dX10_steps_77 (by decide) ?_
        refine ez_iret dX10_steps_82 rfl rfl ?_
        rw [show s_steps T v = (2, T.w_rw [(nI p1.1).toInt64, (nI p1.2).toInt64]) from by unfold s_steps; rw [if_pos hn, if_neg (Int32.not_le.mpr c3), s_one, e1, s_two, e3]]
        exact hK16.end
      | none =>
        rintro _ _ ⟨rfl, I19, rfl, hK20⟩
        show ez_P _ _ _ _ _ _ 73 [(0, .ref 0), (1, .int v)] (.int 0 :: []) (n, sl, kd, I19, L, Rf) _
        have hK20 : zK n kd I L Rf gw I19 L Rf T (some T.x) none false := hK20
        refine ez_if_eq (tgt := 80) dX10_steps_73 (by decide) (fun c21 => ?_) (fun c21 => absurd (by decide) c21)
        refine ez_bipush (v := (-2)) dX10_steps_80 (by decide) ?_
        refine ez_iret dX10_steps_82 rfl rfl ?_
        rw [show s_steps T v = (-2, T) from by unfold s_steps; rw [if_pos hn, if_neg (Int32.not_le.mpr c3), s_one, e1, s_two, e3]]
        exact hK20.end
  · skip
    refine ez_aload_n (i := 0) dX10_steps_34 rfl rfl ?_
    refine ez_getR dX10_steps_35 flX10_19 (hF.lt (by decide)) (hF.kc (by decide) rfl) (hF.pt 3 rfl) ?_
    refine ez_callV (M1 := mX4_empty) (rest := []) dX10_steps_38 mlX10_297 mvX4_empty rfl (hF.lt (by decide)) (hF.kc (by decide) rfl) (Nat.le_of_ble_eq_true rfl) rfl (y_X4_empty (I := I) (L := L) (d + 59) hF) z_tok ?_
    rintro _ _ ⟨rfl, I22, L23, rfl, hr24, ho25⟩
    show ez_P _ _ _ _ _ _ 41 [(0, .ref 0), (1, .int v)] [] (n, sl, kd, I22, L23, Rf) _
    have hK26 : zK n kd I L Rf I I22 L23 Rf (T.w_rw []) none none false := by exact hK0.tell hr24 ho25
    refine ez_iconst (v := 0) dX10_steps_41 (by decide) ?_
    refine ez_iret dX10_steps_42 rfl rfl ?_
    rw [show s_steps T v = (0, T.w_rw []) from by unfold s_steps; rw [if_pos hn, if_pos (Int32.not_lt.mp c3)]]
    exact hK26.end
theorem c_steps_no {n : Nat} {sl : Nat × Nat} {kd : Nat → Nat × Nat} {I : Nat → Nat → Int32} {L : Nat → Nat → Int64} {Rf : Nat → Nat → Option Nat} (d : Nat) {T : zT} {H : Nat} (hC : zC n kd I L Rf T) (hO : zOk H T) (hH : H ≤ 1000000000) {v : Int32} (hn : ¬ (0 ≤ v ∧ v ≤ 20)) (f : Nat) (B : Nat → Int32) : ez_Q (f + 100) B f (fun _ => True) mX10_steps (d + 60) [.ref 0, .int v] (n, sl, kd, I, L, Rf) (zpC n sl kd I L Rf (some (.int (s_steps T v).1)) (s_steps T v).2) := by
  have hF := hC.F; have hc7 := hO.c
  have hK0 : zK n kd I L Rf I I L Rf T none none false := zK.start hC
  have hsp : s_steps T v = ((-1), T) := (by unfold s_steps; rw [if_neg hn])
  rw [hsp]
  refine ez_meth pn_X.2.2.2.2.2.2.2.2.2.2.1 (Nat.le_of_ble_eq_true rfl) ?_
  show ez_P _ _ _ _ _ _ 0 [(0, .ref 0), (1, .int v)] [] (n, sl, kd, I, L, Rf) _
  refine ez_iload_n (i := 1) dX10_steps_0 rfl rfl ?_
  refine ez_iconst (v := 0) dX10_steps_1 (by decide) ?_
  refine ez_bipush (v := 20) dX10_steps_2 (by decide) ?_
  refine ez_callS (M1 := mX10_within) (rest := []) dX10_steps_4 mlX10_158 msX10_within rfl (Nat.le_of_ble_eq_true rfl) rfl (zq_b0 hn (zq_b (q_X10_within (d + 59) v 0 20) (n, sl, kd, I, L, Rf))) eb_rok ?_
  rintro _ _ ⟨rfl, rfl⟩
  show ez_P _ _ _ _ _ _ 7 [(0, .ref 0), (1, .int v)] (.int 0 :: []) _ _
  refine ez_if_ne (tgt := 12) dX10_steps_7 (by decide) (fun c1 => absurd c1 (by decide)) (fun c1 => ?_)
  refine ez_iconst (v := (-1)) dX10_steps_10 (by decide) ?_
  refine ez_iret dX10_steps_11 rfl rfl ?_
  exact hK0.end
theorem c_steps {n : Nat} {sl : Nat × Nat} {kd : Nat → Nat × Nat} {I : Nat → Nat → Int32} {L : Nat → Nat → Int64} {Rf : Nat → Nat → Option Nat} (d : Nat) {T : zT} {H : Nat} (hC : zC n kd I L Rf T) (hO : zOk H T) (hH : H ≤ 1000000000) (v : Int32) (f : Nat) (B : Nat → Int32) : ez_Q (f + 100) B f (fun _ => True) mX10_steps (d + 60) [.ref 0, .int v] (n, sl, kd, I, L, Rf) (zpC n sl kd I L Rf (some (.int (s_steps T v).1)) (s_steps T v).2) := by
  by_cases hn : 0 ≤ v ∧ v ≤ 20
  · exact c_steps_ok d hC hO hH hn f B
  · exact c_steps_no d hC hO hH hn f B
