/-! cake on the class -/
/-- whether what is left wins -/
def zwt1 (p : Nat) : Int32 := if p = 0 then 1 else if zlose.contains p = true then 0 else 1
def zw0 (t : Nat → Int32) (b c i : Nat) : Option Nat := if t (64 * i + 8 * min b i + min c i) = 0 then some i else none
def zw1 (t : Nat → Int32) (a b c i : Nat) : Option Nat := if t (64 * a + 8 * min b i + min c i) = 0 then some (10 + i) else none
def zw2 (t : Nat → Int32) (a b c i : Nat) : Option Nat := if t (64 * a + 8 * b + min c i) = 0 then some (20 + i) else none
def zwin (t : Nat → Int32) (a b c : Nat) : Option Nat := match zfb (zw0 t b c) a 0 with
  | some q => some q
  | none => match zfb (zw1 t a b c) b 0 with
    | some q => some q
    | none => zfb (zw2 t a b c) c 0
def zwk (R : Nat) (t : Nat → Int32) (x y z : Nat) : Prop := ∀ x' y' z', y' ≤ x' → z' ≤ y' → (R ≤ 1 → y' = 0) → (R ≤ 2 → z' = 0) → zl3 x' y' z' x y z → t (64 * x' + 8 * y' + z') = zwt1 (64 * x' + 8 * y' + z')
theorem zwin_cg {R : Nat} {t : Nat → Int32} {a b c : Nat} (hb : b ≤ a) (hc : c ≤ b) (h1 : R ≤ 1 → b = 0) (h2 : R ≤ 2 → c = 0) (h : zwk R t a b c) : zwin t a b c = zwin zwt1 a b c := by
  unfold zwin
  rw [zfb_cg (f := zw0 t b c) (g := zw0 zwt1 b c) a 0 (fun k g1 g2 => by unfold zw0; rw [h k (min b k) (min c k) (by omega) (by omega) (by omega) (by omega) (Or.inl (by omega))]),
    zfb_cg (f := zw1 t a b c) (g := zw1 zwt1 a b c) b 0 (fun k g1 g2 => by unfold zw1; rw [h a (min b k) (min c k) (by omega) (by omega) (by omega) (by omega) (Or.inr ⟨rfl, Or.inl (by omega)⟩)]),
    zfb_cg (f := zw2 t a b c) (g := zw2 zwt1 a b c) c 0 (fun k g1 g2 => by unfold zw2; rw [h a b (min c k) (by omega) (by omega) (by omega) (by omega) (Or.inr ⟨rfl, Or.inr ⟨rfl, by omega⟩⟩)])]
theorem zwin_ok : ((List.range 8).all fun x => (List.range 8).all fun y => (List.range 8).all fun z => if y ≤ x ∧ z ≤ y then decide (zwin zwt1 x y z = zpie zct1 x y z) && (match zwin zwt1 x y z with
  | none => (x == 0) || zwt1 (64 * x + 8 * y + z) == 0
  | some _ => zwt1 (64 * x + 8 * y + z) == 1) else true) = true := by decide +kernel
theorem zwin_k {x y z : Nat} (hx : x < 8) (h2 : y ≤ x) (h3 : z ≤ y) : zwin zwt1 x y z = zpie zct1 x y z ∧ (zwin zwt1 x y z = none → x = 0 ∨ zwt1 (64 * x + 8 * y + z) = 0) ∧ (¬ zwin zwt1 x y z = none → zwt1 (64 * x + 8 * y + z) = 1) := by
  have h := List.all_eq_true.mp (List.all_eq_true.mp (List.all_eq_true.mp zwin_ok x (List.mem_range.mpr hx)) y (List.mem_range.mpr (by omega))) z (List.mem_range.mpr (by omega))
  rw [if_pos ⟨h2, h3⟩, Bool.and_eq_true] at h
  refine ⟨of_decide_eq_true h.1, ?_⟩
  have h := h.2
  cases e : zwin zwt1 x y z with
  | none =>
    rw [e] at h
    refine ⟨fun _ => ?_, fun g => absurd rfl g⟩
    rcases Bool.or_eq_true _ _ |>.mp h with g | g
    · exact Or.inl (by simpa using g)
    · exact Or.inr (eq_of_beq g)
  | some q => rw [e] at h; exact ⟨fun g => (by cases g), fun _ => eq_of_beq h⟩
theorem zwin_lt {t : Nat → Int32} {a b c q : Nat} (h : zwin t a b c = some q) (h7 : a ≤ 7 ∧ b ≤ 7 ∧ c ≤ 7) : q < 100 := by
  unfold zwin at h
  cases e : zfb (zw0 t b c) a 0 with
  | some u => rw [e] at h; cases h; have := zfb_lt (M := 0) (fun i q h => by unfold zw0 at h; split at h; cases h; omega; cases h) _ _ _ e; omega
  | none =>
    rw [e] at h
    cases e1 : zfb (zw1 t a b c) b 0 with
    | some u => rw [e1] at h; cases h; have := zfb_lt (M := 10) (fun i q h => by unfold zw1 at h; split at h; cases h; omega; cases h) _ _ _ e1; omega
    | none => rw [e1] at h; have := zfb_lt (M := 20) (fun i q h => by unfold zw2 at h; split at h; cases h; omega; cases h) _ _ _ h; omega
theorem zcr_m2 {r : Option Nat} (h : ∀ t, r = some t → t < 100) : zcr3 r = -2 ↔ r = none := by
  cases r with
  | none => exact ⟨fun _ => rfl, fun _ => rfl⟩
  | some t => exact ⟨fun e => absurd (show nI t = -2 from e) (z_wn (k := t) (by have := h t rfl; omega) (m := 0) (by omega)).1, fun e => by cases e⟩
theorem k_leave {n : Nat} {sl : Nat × Nat} {kd : Nat → Nat × Nat} {I : Nat → Nat → Int32} {L : Nat → Nat → Int64} {Rf : Nat → Nat → Option Nat} (d : Nat) {T : zT} {H : Nat} {I0 g : Nat → Nat → Int32} {L0 : Nat → Nat → Int64} {R0 : Nat → Nat → Option Nat} {G Bf : Option (Nat → Int32)} {w : Bool} (hK : zK n kd I0 L0 R0 g I L Rf T G Bf w) (hO : zOk H T) (hH : H ≤ 1000000000) (ca cb cc : Nat) : zq mX3_leave (d + 20) [.ref 105, .int (nI ca), .int (nI cb), .int (nI cc)] (n, sl, kd, I, L, Rf) (zpKg n sl kd I0 L0 R0 L Rf T G Bf w none (fun g1 => g1 107 0 = nI ca ∧ g1 107 1 = nI cb ∧ g1 107 2 = nI cc ∧ ∀ q, q ≠ 107 → g1 q = g q)) := by
  have hC := hK.C; have hF := hC.F; have hc7 := hO.c
  intro f B
  refine ez_meth pn_X.2.2.2.1 (Nat.le_of_ble_eq_true rfl) ?_
  show ez_P _ _ _ _ _ _ 0 [(0, .ref 105), (1, .int (nI ca)), (2, .int (nI cb)), (3, .int (nI cc))] [] (n, sl, kd, I, L, Rf) _
  refine ez_aload_n (i := 0) dX3_leave_0 rfl rfl ?_
  refine ez_getR dX3_leave_1 flX3_15 (hF.lt (by decide)) (hF.kc (by decide) rfl) (hF.pt 102 rfl) ?_
  refine ez_iconst (v := 0) dX3_leave_4 (by decide) ?_
  refine ez_iload_n (i := 1) dX3_leave_5 rfl rfl ?_
  refine ez_isN (k := 0) dX3_leave_6 (hF.lt (by decide)) (hF.lx (by decide)) (hF.ka (by decide) rfl) (by decide) (by decide) ?_
  refine ez_nmI (fun I1 hI1 => ?_)
  have hK2 : zK n kd I0 L0 R0 (z_set g 107 0 (nI ca)) I1 L Rf T G Bf w := by rw [hI1]; exact hK.gset (by unfold zgk; omega)
  refine ez_aload_n (i := 0) dX3_leave_7 rfl rfl ?_
  refine ez_getR dX3_leave_8 flX3_15 (hF.lt (by decide)) (hF.kc (by decide) rfl) (hF.pt 102 rfl) ?_
  refine ez_iconst (v := 1) dX3_leave_11 (by decide) ?_
  refine ez_iload_n (i := 2) dX3_leave_12 rfl rfl ?_
  refine ez_isN (k := 1) dX3_leave_13 (hF.lt (by decide)) (hF.lx (by decide)) (hF.ka (by decide) rfl) (by decide) (by decide) ?_
  refine ez_nmI (fun I3 hI3 => ?_)
  have hK4 : zK n kd I0 L0 R0 (z_set (z_set g 107 0 (nI ca)) 107 1 (nI cb)) I3 L Rf T G Bf w := by rw [hI3]; exact hK2.gset (by unfold zgk; omega)
  refine ez_aload_n (i := 0) dX3_leave_14 rfl rfl ?_
  refine ez_getR dX3_leave_15 flX3_15 (hF.lt (by decide)) (hF.kc (by decide) rfl) (hF.pt 102 rfl) ?_
  refine ez_iconst (v := 2) dX3_leave_18 (by decide) ?_
  refine ez_iload_n (i := 3) dX3_leave_19 rfl rfl ?_
  refine ez_isN (k := 2) dX3_leave_20 (hF.lt (by decide)) (hF.lx (by decide)) (hF.ka (by decide) rfl) (by decide) (by decide) ?_
  refine ez_nmI (fun I5 hI5 => ?_)
  have hK6 : zK n kd I0 L0 R0 (z_set (z_set (z_set g 107 0 (nI ca)) 107 1 (nI cb)) 107 2 (nI cc)) I5 L Rf T G Bf w := by rw [hI5]; exact hK4.gset (by unfold zgk; omega)
  refine ez_vret dX3_leave_21 rfl ?_
  exact ⟨rfl, _, _, rfl, hK6, by rw [z_set_nk (by decide), z_set_nk (by decide), z_set_at], by rw [z_set_nk (by decide), z_set_at], by rw [z_set_at], fun q hq => by rw [z_set_ne hq, z_set_ne hq, z_set_ne hq]⟩
theorem k_idx_0 {n : Nat} {sl : Nat × Nat} {kd : Nat → Nat × Nat} {I : Nat → Nat → Int32} {L : Nat → Nat → Int64} {Rf : Nat → Nat → Option Nat} (d : Nat) {T : zT} {H : Nat} {I0 g : Nat → Nat → Int32} {L0 : Nat → Nat → Int64} {R0 : Nat → Nat → Option Nat} {G Bf : Option (Nat → Int32)} {w : Bool} (hK : zK n kd I0 L0 R0 g I L Rf T G Bf w) (hO : zOk H T) (hH : H ≤ 1000000000) {ca cb cc : Nat} (h7 : ca ≤ 7 ∧ cb ≤ 7 ∧ cc ≤ 7) (hl : g 107 0 = nI ca ∧ g 107 1 = nI cb ∧ g 107 2 = nI cc) {k : Nat} (hk : k < 8) : zq mX3_indexBehind (d + 20) [.ref 105, .int 0, .int (nI k)] (n, sl, kd, I, L, Rf) (eb_r (nI (64 * min ca k + 8 * min cb k + min cc k)) (n, sl, kd, I, L, Rf)) := by
  have hC := hK.C; have hF := hC.F; have hc7 := hO.c
  intro f B
  refine ez_meth pn_X.2.2.2.1 (Nat.le_of_ble_eq_true rfl) ?_
  show ez_P _ _ _ _ _ _ 0 [(0, .ref 105), (1, .int 0), (2, .int (nI k))] [] (n, sl, kd, I, L, Rf) _
  refine ez_iconst (v := 0) dX3_indexBehind_0 (by decide) ?_
  refine ez_istore_n (l' := [(3, .int 0), (0, .ref 105), (1, .int 0), (2, .int (nI k))]) dX3_indexBehind_1 rfl (by decide) rfl ?_
  refine ez_iconst (v := 0) dX3_indexBehind_2 (by decide) ?_
  refine ez_istore (l' := [(4, .int 0), (3, .int 0), (0, .ref 105), (1, .int 0), (2, .int (nI k))]) dX3_indexBehind_3 (by decide) rfl ?_
  refine ez_iload (i := 4) dX3_indexBehind_5 rfl ?_
  refine ez_iconst (v := 3) dX3_indexBehind_7 (by decide) ?_
  refine ez_icmp_ge (tgt := 50) dX3_indexBehind_8 (by decide) (fun c1 => absurd c1 (by decide)) (fun c1 => ?_)
  refine ez_iload_n (i := 3) dX3_indexBehind_11 rfl rfl ?_
  refine ez_bipush (v := 8) dX3_indexBehind_12 (by decide) ?_
  refine ez_imul dX3_indexBehind_14 ?_
  refine ez_topE (y := 0) (by decide) ?_
  refine ez_iload (i := 4) dX3_indexBehind_15 rfl ?_
  refine ez_iload_n (i := 1) dX3_indexBehind_17 rfl rfl ?_
  refine ez_icmp_ge (tgt := 31) dX3_indexBehind_18 (by decide) (fun c2 => ?_) (fun c2 => absurd (by decide) c2)
  refine ez_aload_n (i := 0) dX3_indexBehind_31 rfl rfl ?_
  refine ez_getR dX3_indexBehind_32 flX3_15 (hF.lt (by decide)) (hF.kc (by decide) rfl) (hF.pt 102 rfl) ?_
  refine ez_iload (i := 4) dX3_indexBehind_35 rfl ?_
  refine ez_iaN (k := 0) dX3_indexBehind_37 (hF.lt (by decide)) (hF.ka (by decide) rfl) (by decide) (by decide) ?_
  refine ez_topE (y := nI ca) ((congrFun (hK.g 107 (by unfold zgk; omega)) _).trans hl.1) ?_
  refine ez_iload_n (i := 2) dX3_indexBehind_38 rfl rfl ?_
  refine ez_min dX3_indexBehind_39 xmX3_39 (Nat.le_of_ble_eq_true rfl) ?_
  refine ez_topE (y := nI (min ca k)) (z_mnn (by omega) (by omega)) ?_
  refine ez_iadd dX3_indexBehind_42 ?_
  refine ez_topE (y := nI (0 + (min ca k))) (nI_add _ _) ?_
  refine ez_istore_n (l' := [(3, .int (nI (0 + (min ca k)))), (4, .int 0), (0, .ref 105), (1, .int 0), (2, .int (nI k))]) dX3_indexBehind_43 rfl (by decide) rfl ?_
  refine ez_iinc (v := 1) (l' := [(4, .int 1), (3, .int (nI (0 + (min ca k)))), (0, .ref 105), (1, .int 0), (2, .int (nI k))]) dX3_indexBehind_44 rfl (by decide) (by decide) rfl ?_
  refine ez_goto (tgt := 5) dX3_indexBehind_47 (by decide) ?_
  refine ez_iload (i := 4) dX3_indexBehind_5 rfl ?_
  refine ez_iconst (v := 3) dX3_indexBehind_7 (by decide) ?_
  refine ez_icmp_ge (tgt := 50) dX3_indexBehind_8 (by decide) (fun c3 => absurd c3 (by decide)) (fun c3 => ?_)
  refine ez_iload_n (i := 3) dX3_indexBehind_11 rfl rfl ?_
  refine ez_bipush (v := 8) dX3_indexBehind_12 (by decide) ?_
  refine ez_imul dX3_indexBehind_14 ?_
  refine ez_topE (y := nI ((0 + (min ca k)) * 8)) (nI_mul _ _) ?_
  refine ez_iload (i := 4) dX3_indexBehind_15 rfl ?_
  refine ez_iload_n (i := 1) dX3_indexBehind_17 rfl rfl ?_
  refine ez_icmp_ge (tgt := 31) dX3_indexBehind_18 (by decide) (fun c4 => ?_) (fun c4 => absurd (by decide) c4)
  refine ez_aload_n (i := 0) dX3_indexBehind_31 rfl rfl ?_
  refine ez_getR dX3_indexBehind_32 flX3_15 (hF.lt (by decide)) (hF.kc (by decide) rfl) (hF.pt 102 rfl) ?_
  refine ez_iload (i := 4) dX3_indexBehind_35 rfl ?_
  refine ez_iaN (k := 1) dX3_indexBehind_37 (hF.lt (by decide)) (hF.ka (by decide) rfl) (by decide) (by decide) ?_
  refine ez_topE (y := nI cb) ((congrFun (hK.g 107 (by unfold zgk; omega)) _).trans hl.2.1) ?_
  refine ez_iload_n (i := 2) dX3_indexBehind_38 rfl rfl ?_
  refine ez_min dX3_indexBehind_39 xmX3_39 (Nat.le_of_ble_eq_true rfl) ?_
  refine ez_topE (y := nI (min cb k)) (z_mnn (by omega) (by omega)) ?_
  refine ez_iadd dX3_indexBehind_42 ?_
  refine ez_topE (y := nI (((0 + (min ca k)) * 8) + (min cb k))) (nI_add _ _) ?_
  refine ez_istore_n (l' := [(3, .int (nI (((0 + (min ca k)) * 8) + (min cb k)))), (4, .int 1), (0, .ref 105), (1, .int 0), (2, .int (nI k))]) dX3_indexBehind_43 rfl (by decide) rfl ?_
  refine ez_iinc (v := 2) (l' := [(4, .int 2), (3, .int (nI (((0 + (min ca k)) * 8) + (min cb k)))), (0, .ref 105), (1, .int 0), (2, .int (nI k))]) dX3_indexBehind_44 rfl (by decide) (by decide) rfl ?_
  refine ez_goto (tgt := 5) dX3_indexBehind_47 (by decide) ?_
  refine ez_iload (i := 4) dX3_indexBehind_5 rfl ?_
  refine ez_iconst (v := 3) dX3_indexBehind_7 (by decide) ?_
  refine ez_icmp_ge (tgt := 50) dX3_indexBehind_8 (by decide) (fun c5 => absurd c5 (by decide)) (fun c5 => ?_)
  refine ez_iload_n (i := 3) dX3_indexBehind_11 rfl rfl ?_
  refine ez_bipush (v := 8) dX3_indexBehind_12 (by decide) ?_
  refine ez_imul dX3_indexBehind_14 ?_
  refine ez_topE (y := nI ((((0 + (min ca k)) * 8) + (min cb k)) * 8)) (nI_mul _ _) ?_
  refine ez_iload (i := 4) dX3_indexBehind_15 rfl ?_
  refine ez_iload_n (i := 1) dX3_indexBehind_17 rfl rfl ?_
  refine ez_icmp_ge (tgt := 31) dX3_indexBehind_18 (by decide) (fun c6 => ?_) (fun c6 => absurd (by decide) c6)
  refine ez_aload_n (i := 0) dX3_indexBehind_31 rfl rfl ?_
  refine ez_getR dX3_indexBehind_32 flX3_15 (hF.lt (by decide)) (hF.kc (by decide) rfl) (hF.pt 102 rfl) ?_
  refine ez_iload (i := 4) dX3_indexBehind_35 rfl ?_
  refine ez_iaN (k := 2) dX3_indexBehind_37 (hF.lt (by decide)) (hF.ka (by decide) rfl) (by decide) (by decide) ?_
  refine ez_topE (y := nI cc) ((congrFun (hK.g 107 (by unfold zgk; omega)) _).trans hl.2.2) ?_
  refine ez_iload_n (i := 2) dX3_indexBehind_38 rfl rfl ?_
  refine ez_min dX3_indexBehind_39 xmX3_39 (Nat.le_of_ble_eq_true rfl) ?_
  refine ez_topE (y := nI (min cc k)) (z_mnn (by omega) (by omega)) ?_
  refine ez_iadd dX3_indexBehind_42 ?_
  refine ez_topE (y := nI (((((0 + (min ca k)) * 8) + (min cb k)) * 8) + (min cc k))) (nI_add _ _) ?_
  refine ez_istore_n (l' := [(3, .int (nI (((((0 + (min ca k)) * 8) + (min cb k)) * 8) + (min cc k)))), (4, .int 2), (0, .ref 105), (1, .int 0), (2, .int (nI k))]) dX3_indexBehind_43 rfl (by decide) rfl ?_
  refine ez_iinc (v := 3) (l' := [(4, .int 3), (3, .int (nI (((((0 + (min ca k)) * 8) + (min cb k)) * 8) + (min cc k)))), (0, .ref 105), (1, .int 0), (2, .int (nI k))]) dX3_indexBehind_44 rfl (by decide) (by decide) rfl ?_
  refine ez_goto (tgt := 5) dX3_indexBehind_47 (by decide) ?_
  refine ez_iload (i := 4) dX3_indexBehind_5 rfl ?_
  refine ez_iconst (v := 3) dX3_indexBehind_7 (by decide) ?_
  refine ez_icmp_ge (tgt := 50) dX3_indexBehind_8 (by decide) (fun c7 => ?_) (fun c7 => absurd (by decide) c7)
  refine ez_iload_n (i := 3) dX3_indexBehind_50 rfl rfl ?_
  refine ez_iret dX3_indexBehind_51 rfl rfl ?_
  exact ⟨rfl, congrArg (fun z => some (Value.int (nI z))) (by omega)⟩
theorem k_idx_1 {n : Nat} {sl : Nat × Nat} {kd : Nat → Nat × Nat} {I : Nat → Nat → Int32} {L : Nat → Nat → Int64} {Rf : Nat → Nat → Option Nat} (d : Nat) {T : zT} {H : Nat} {I0 g : Nat → Nat → Int32} {L0 : Nat → Nat → Int64} {R0 : Nat → Nat → Option Nat} {G Bf : Option (Nat → Int32)} {w : Bool} (hK : zK n kd I0 L0 R0 g I L Rf T G Bf w) (hO : zOk H T) (hH : H ≤ 1000000000) {ca cb cc : Nat} (h7 : ca ≤ 7 ∧ cb ≤ 7 ∧ cc ≤ 7) (hl : g 107 0 = nI ca ∧ g 107 1 = nI cb ∧ g 107 2 = nI cc) {k : Nat} (hk : k < 8) : zq mX3_indexBehind (d + 20) [.ref 105, .int 1, .int (nI k)] (n, sl, kd, I, L, Rf) (eb_r (nI (64 * ca + 8 * min cb k + min cc k)) (n, sl, kd, I, L, Rf)) := by
  have hC := hK.C; have hF := hC.F; have hc7 := hO.c
  intro f B
  refine ez_meth pn_X.2.2.2.1 (Nat.le_of_ble_eq_true rfl) ?_
  show ez_P _ _ _ _ _ _ 0 [(0, .ref 105), (1, .int 1), (2, .int (nI k))] [] (n, sl, kd, I, L, Rf) _
  refine ez_iconst (v := 0) dX3_indexBehind_0 (by decide) ?_
  refine ez_istore_n (l' := [(3, .int 0), (0, .ref 105), (1, .int 1), (2, .int (nI k))]) dX3_indexBehind_1 rfl (by decide) rfl ?_
  refine ez_iconst (v := 0) dX3_indexBehind_2 (by decide) ?_
  refine ez_istore (l' := [(4, .int 0), (3, .int 0), (0, .ref 105), (1, .int 1), (2, .int (nI k))]) dX3_indexBehind_3 (by decide) rfl ?_
  refine ez_iload (i := 4) dX3_indexBehind_5 rfl ?_
  refine ez_iconst (v := 3) dX3_indexBehind_7 (by decide) ?_
  refine ez_icmp_ge (tgt := 50) dX3_indexBehind_8 (by decide) (fun c1 => absurd c1 (by decide)) (fun c1 => ?_)
  refine ez_iload_n (i := 3) dX3_indexBehind_11 rfl rfl ?_
  refine ez_bipush (v := 8) dX3_indexBehind_12 (by decide) ?_
  refine ez_imul dX3_indexBehind_14 ?_
  refine ez_topE (y := 0) (by decide) ?_
  refine ez_iload (i := 4) dX3_indexBehind_15 rfl ?_
  refine ez_iload_n (i := 1) dX3_indexBehind_17 rfl rfl ?_
  refine ez_icmp_ge (tgt := 31) dX3_indexBehind_18 (by decide) (fun c2 => absurd c2 (by decide)) (fun c2 => ?_)
  refine ez_aload_n (i := 0) dX3_indexBehind_21 rfl rfl ?_
  refine ez_getR dX3_indexBehind_22 flX3_15 (hF.lt (by decide)) (hF.kc (by decide) rfl) (hF.pt 102 rfl) ?_
  refine ez_iload (i := 4) dX3_indexBehind_25 rfl ?_
  refine ez_iaN (k := 0) dX3_indexBehind_27 (hF.lt (by decide)) (hF.ka (by decide) rfl) (by decide) (by decide) ?_
  refine ez_topE (y := nI ca) ((congrFun (hK.g 107 (by unfold zgk; omega)) _).trans hl.1) ?_
  refine ez_goto (tgt := 42) dX3_indexBehind_28 (by decide) ?_
  refine ez_iadd dX3_indexBehind_42 ?_
  refine ez_topE (y := nI (0 + ca)) (nI_add _ _) ?_
  refine ez_istore_n (l' := [(3, .int (nI (0 + ca))), (4, .int 0), (0, .ref 105), (1, .int 1), (2, .int (nI k))]) dX3_indexBehind_43 rfl (by decide) rfl ?_
  refine ez_iinc (v := 1) (l' := [(4, .int 1), (3, .int (nI (0 + ca))), (0, .ref 105), (1, .int 1), (2, .int (nI k))]) dX3_indexBehind_44 rfl (by decide) (by decide) rfl ?_
  refine ez_goto (tgt := 5) dX3_indexBehind_47 (by decide) ?_
  refine ez_iload (i := 4) dX3_indexBehind_5 rfl ?_
  refine ez_iconst (v := 3) dX3_indexBehind_7 (by decide) ?_
  refine ez_icmp_ge (tgt := 50) dX3_indexBehind_8 (by decide) (fun c3 => absurd c3 (by decide)) (fun c3 => ?_)
  refine ez_iload_n (i := 3) dX3_indexBehind_11 rfl rfl ?_
  refine ez_bipush (v := 8) dX3_indexBehind_12 (by decide) ?_
  refine ez_imul dX3_indexBehind_14 ?_
  refine ez_topE (y := nI ((0 + ca) * 8)) (nI_mul _ _) ?_
  refine ez_iload (i := 4) dX3_indexBehind_15 rfl ?_
  refine ez_iload_n (i := 1) dX3_indexBehind_17 rfl rfl ?_
  refine ez_icmp_ge (tgt := 31) dX3_indexBehind_18 (by decide) (fun c4 => ?_) (fun c4 => absurd (by decide) c4)
  refine ez_aload_n (i := 0) dX3_indexBehind_31 rfl rfl ?_
  refine ez_getR dX3_indexBehind_32 flX3_15 (hF.lt (by decide)) (hF.kc (by decide) rfl) (hF.pt 102 rfl) ?_
  refine ez_iload (i := 4) dX3_indexBehind_35 rfl ?_
  refine ez_iaN (k := 1) dX3_indexBehind_37 (hF.lt (by decide)) (hF.ka (by decide) rfl) (by decide) (by decide) ?_
  refine ez_topE (y := nI cb) ((congrFun (hK.g 107 (by unfold zgk; omega)) _).trans hl.2.1) ?_
  refine ez_iload_n (i := 2) dX3_indexBehind_38 rfl rfl ?_
  refine ez_min dX3_indexBehind_39 xmX3_39 (Nat.le_of_ble_eq_true rfl) ?_
  refine ez_topE (y := nI (min cb k)) (z_mnn (by omega) (by omega)) ?_
  refine ez_iadd dX3_indexBehind_42 ?_
  refine ez_topE (y := nI (((0 + ca) * 8) + (min cb k))) (nI_add _ _) ?_
  refine ez_istore_n (l' := [(3, .int (nI (((0 + ca) * 8) + (min cb k)))), (4, .int 1), (0, .ref 105), (1, .int 1), (2, .int (nI k))]) dX3_indexBehind_43 rfl (by decide) rfl ?_
  refine ez_iinc (v := 2) (l' := [(4, .int 2), (3, .int (nI (((0 + ca) * 8) + (min cb k)))), (0, .ref 105), (1, .int 1), (2, .int (nI k))]) dX3_indexBehind_44 rfl (by decide) (by decide) rfl ?_
  refine ez_goto (tgt := 5) dX3_indexBehind_47 (by decide) ?_
  refine ez_iload (i := 4) dX3_indexBehind_5 rfl ?_
  refine ez_iconst (v := 3) dX3_indexBehind_7 (by decide) ?_
  refine ez_icmp_ge (tgt := 50) dX3_indexBehind_8 (by decide) (fun c5 => absurd c5 (by decide)) (fun c5 => ?_)
  refine ez_iload_n (i := 3) dX3_indexBehind_11 rfl rfl ?_
  refine ez_bipush (v := 8) dX3_indexBehind_12 (by decide) ?_
  refine ez_imul dX3_indexBehind_14 ?_
  refine ez_topE (y := nI ((((0 + ca) * 8) + (min cb k)) * 8)) (nI_mul _ _) ?_
  refine ez_iload (i := 4) dX3_indexBehind_15 rfl ?_
  refine ez_iload_n (i := 1) dX3_indexBehind_17 rfl rfl ?_
  refine ez_icmp_ge (tgt := 31) dX3_indexBehind_18 (by decide) (fun c6 => ?_) (fun c6 => absurd (by decide) c6)
  refine ez_aload_n (i := 0) dX3_indexBehind_31 rfl rfl ?_
  refine ez_getR dX3_indexBehind_32 flX3_15 (hF.lt (by decide)) (hF.kc (by decide) rfl) (hF.pt 102 rfl) ?_
  refine ez_iload (i := 4) dX3_indexBehind_35 rfl ?_
  refine ez_iaN (k := 2) dX3_indexBehind_37 (hF.lt (by decide)) (hF.ka (by decide) rfl) (by decide) (by decide) ?_
  refine ez_topE (y := nI cc) ((congrFun (hK.g 107 (by unfold zgk; omega)) _).trans hl.2.2) ?_
  refine ez_iload_n (i := 2) dX3_indexBehind_38 rfl rfl ?_
  refine ez_min dX3_indexBehind_39 xmX3_39 (Nat.le_of_ble_eq_true rfl) ?_
  refine ez_topE (y := nI (min cc k)) (z_mnn (by omega) (by omega)) ?_
  refine ez_iadd dX3_indexBehind_42 ?_
  refine ez_topE (y := nI (((((0 + ca) * 8) + (min cb k)) * 8) + (min cc k))) (nI_add _ _) ?_
  refine ez_istore_n (l' := [(3, .int (nI (((((0 + ca) * 8) + (min cb k)) * 8) + (min cc k)))), (4, .int 2), (0, .ref 105), (1, .int 1), (2, .int (nI k))]) dX3_indexBehind_43 rfl (by decide) rfl ?_
  refine ez_iinc (v := 3) (l' := [(4, .int 3), (3, .int (nI (((((0 + ca) * 8) + (min cb k)) * 8) + (min cc k)))), (0, .ref 105), (1, .int 1), (2, .int (nI k))]) dX3_indexBehind_44 rfl (by decide) (by decide) rfl ?_
  refine ez_goto (tgt := 5) dX3_indexBehind_47 (by decide) ?_
  refine ez_iload (i := 4) dX3_indexBehind_5 rfl ?_
  refine ez_iconst (v := 3) dX3_indexBehind_7 (by decide) ?_
  refine ez_icmp_ge (tgt := 50) dX3_indexBehind_8 (by decide) (fun c7 => ?_) (fun c7 => absurd (by decide) c7)
  refine ez_iload_n (i := 3) dX3_indexBehind_50 rfl rfl ?_
  refine ez_iret dX3_indexBehind_51 rfl rfl ?_
  exact ⟨rfl, congrArg (fun z => some (Value.int (nI z))) (by omega)⟩
theorem k_idx_2 {n : Nat} {sl : Nat × Nat} {kd : Nat → Nat × Nat} {I : Nat → Nat → Int32} {L : Nat → Nat → Int64} {Rf : Nat → Nat → Option Nat} (d : Nat) {T : zT} {H : Nat} {I0 g : Nat → Nat → Int32} {L0 : Nat → Nat → Int64} {R0 : Nat → Nat → Option Nat} {G Bf : Option (Nat → Int32)} {w : Bool} (hK : zK n kd I0 L0 R0 g I L Rf T G Bf w) (hO : zOk H T) (hH : H ≤ 1000000000) {ca cb cc : Nat} (h7 : ca ≤ 7 ∧ cb ≤ 7 ∧ cc ≤ 7) (hl : g 107 0 = nI ca ∧ g 107 1 = nI cb ∧ g 107 2 = nI cc) {k : Nat} (hk : k < 8) : zq mX3_indexBehind (d + 20) [.ref 105, .int 2, .int (nI k)] (n, sl, kd, I, L, Rf) (eb_r (nI (64 * ca + 8 * cb + min cc k)) (n, sl, kd, I, L, Rf)) := by
  have hC := hK.C; have hF := hC.F; have hc7 := hO.c
  intro f B
  refine ez_meth pn_X.2.2.2.1 (Nat.le_of_ble_eq_true rfl) ?_
  show ez_P _ _ _ _ _ _ 0 [(0, .ref 105), (1, .int 2), (2, .int (nI k))] [] (n, sl, kd, I, L, Rf) _
  refine ez_iconst (v := 0) dX3_indexBehind_0 (by decide) ?_
  refine ez_istore_n (l' := [(3, .int 0), (0, .ref 105), (1, .int 2), (2, .int (nI k))]) dX3_indexBehind_1 rfl (by decide) rfl ?_
  refine ez_iconst (v := 0) dX3_indexBehind_2 (by decide) ?_
  refine ez_istore (l' := [(4, .int 0), (3, .int 0), (0, .ref 105), (1, .int 2), (2, .int (nI k))]) dX3_indexBehind_3 (by decide) rfl ?_
  refine ez_iload (i := 4) dX3_indexBehind_5 rfl ?_
  refine ez_iconst (v := 3) dX3_indexBehind_7 (by decide) ?_
  refine ez_icmp_ge (tgt := 50) dX3_indexBehind_8 (by decide) (fun c1 => absurd c1 (by decide)) (fun c1 => ?_)
  refine ez_iload_n (i := 3) dX3_indexBehind_11 rfl rfl ?_
  refine ez_bipush (v := 8) dX3_indexBehind_12 (by decide) ?_
  refine ez_imul dX3_indexBehind_14 ?_
  refine ez_topE (y := 0) (by decide) ?_
  refine ez_iload (i := 4) dX3_indexBehind_15 rfl ?_
  refine ez_iload_n (i := 1) dX3_indexBehind_17 rfl rfl ?_
  refine ez_icmp_ge (tgt := 31) dX3_indexBehind_18 (by decide) (fun c2 => absurd c2 (by decide)) (fun c2 => ?_)
  refine ez_aload_n (i := 0) dX3_indexBehind_21 rfl rfl ?_
  refine ez_getR dX3_indexBehind_22 flX3_15 (hF.lt (by decide)) (hF.kc (by decide) rfl) (hF.pt 102 rfl) ?_
  refine ez_iload (i := 4) dX3_indexBehind_25 rfl ?_
  refine ez_iaN (k := 0) dX3_indexBehind_27 (hF.lt (by decide)) (hF.ka (by decide) rfl) (by decide) (by decide) ?_
  refine ez_topE (y := nI ca) ((congrFun (hK.g 107 (by unfold zgk; omega)) _).trans hl.1) ?_
  refine ez_goto (tgt := 42) dX3_indexBehind_28 (by decide) ?_
  refine ez_iadd dX3_indexBehind_42 ?_
  refine ez_topE (y := nI (0 + ca)) (nI_add _ _) ?_
  refine ez_istore_n (l' := [(3, .int (nI (0 + ca))), (4, .int 0), (0, .ref 105), (1, .int 2), (2, .int (nI k))]) dX3_indexBehind_43 rfl (by decide) rfl ?_
  refine ez_iinc (v := 1) (l' := [(4, .int 1), (3, .int (nI (0 + ca))), (0, .ref 105), (1, .int 2), (2, .int (nI k))]) dX3_indexBehind_44 rfl (by decide) (by decide) rfl ?_
  refine ez_goto (tgt := 5) dX3_indexBehind_47 (by decide) ?_
  refine ez_iload (i := 4) dX3_indexBehind_5 rfl ?_
  refine ez_iconst (v := 3) dX3_indexBehind_7 (by decide) ?_
  refine ez_icmp_ge (tgt := 50) dX3_indexBehind_8 (by decide) (fun c3 => absurd c3 (by decide)) (fun c3 => ?_)
  refine ez_iload_n (i := 3) dX3_indexBehind_11 rfl rfl ?_
  refine ez_bipush (v := 8) dX3_indexBehind_12 (by decide) ?_
  refine ez_imul dX3_indexBehind_14 ?_
  refine ez_topE (y := nI ((0 + ca) * 8)) (nI_mul _ _) ?_
  refine ez_iload (i := 4) dX3_indexBehind_15 rfl ?_
  refine ez_iload_n (i := 1) dX3_indexBehind_17 rfl rfl ?_
  refine ez_icmp_ge (tgt := 31) dX3_indexBehind_18 (by decide) (fun c4 => absurd c4 (by decide)) (fun c4 => ?_)
  refine ez_aload_n (i := 0) dX3_indexBehind_21 rfl rfl ?_
  refine ez_getR dX3_indexBehind_22 flX3_15 (hF.lt (by decide)) (hF.kc (by decide) rfl) (hF.pt 102 rfl) ?_
  refine ez_iload (i := 4) dX3_indexBehind_25 rfl ?_
  refine ez_iaN (k := 1) dX3_indexBehind_27 (hF.lt (by decide)) (hF.ka (by decide) rfl) (by decide) (by decide) ?_
  refine ez_topE (y := nI cb) ((congrFun (hK.g 107 (by unfold zgk; omega)) _).trans hl.2.1) ?_
  refine ez_goto (tgt := 42) dX3_indexBehind_28 (by decide) ?_
  refine ez_iadd dX3_indexBehind_42 ?_
  refine ez_topE (y := nI (((0 + ca) * 8) + cb)) (nI_add _ _) ?_
  refine ez_istore_n (l' := [(3, .int (nI (((0 + ca) * 8) + cb))), (4, .int 1), (0, .ref 105), (1, .int 2), (2, .int (nI k))]) dX3_indexBehind_43 rfl (by decide) rfl ?_
  refine ez_iinc (v := 2) (l' := [(4, .int 2), (3, .int (nI (((0 + ca) * 8) + cb))), (0, .ref 105), (1, .int 2), (2, .int (nI k))]) dX3_indexBehind_44 rfl (by decide) (by decide) rfl ?_
  refine ez_goto (tgt := 5) dX3_indexBehind_47 (by decide) ?_
  refine ez_iload (i := 4) dX3_indexBehind_5 rfl ?_
  refine ez_iconst (v := 3) dX3_indexBehind_7 (by decide) ?_
  refine ez_icmp_ge (tgt := 50) dX3_indexBehind_8 (by decide) (fun c5 => absurd c5 (by decide)) (fun c5 => ?_)
  refine ez_iload_n (i := 3) dX3_indexBehind_11 rfl rfl ?_
  refine ez_bipush (v := 8) dX3_indexBehind_12 (by decide) ?_
  refine ez_imul dX3_indexBehind_14 ?_
  refine ez_topE (y := nI ((((0 + ca) * 8) + cb) * 8)) (nI_mul _ _) ?_
  refine ez_iload (i := 4) dX3_indexBehind_15 rfl ?_
  refine ez_iload_n (i := 1) dX3_indexBehind_17 rfl rfl ?_
  refine ez_icmp_ge (tgt := 31) dX3_indexBehind_18 (by decide) (fun c6 => ?_) (fun c6 => absurd (by decide) c6)
  refine ez_aload_n (i := 0) dX3_indexBehind_31 rfl rfl ?_
  refine ez_getR dX3_indexBehind_32 flX3_15 (hF.lt (by decide)) (hF.kc (by decide) rfl) (hF.pt 102 rfl) ?_
  refine ez_iload (i := 4) dX3_indexBehind_35 rfl ?_
  refine ez_iaN (k := 2) dX3_indexBehind_37 (hF.lt (by decide)) (hF.ka (by decide) rfl) (by decide) (by decide) ?_
  refine ez_topE (y := nI cc) ((congrFun (hK.g 107 (by unfold zgk; omega)) _).trans hl.2.2) ?_
  refine ez_iload_n (i := 2) dX3_indexBehind_38 rfl rfl ?_
  refine ez_min dX3_indexBehind_39 xmX3_39 (Nat.le_of_ble_eq_true rfl) ?_
  refine ez_topE (y := nI (min cc k)) (z_mnn (by omega) (by omega)) ?_
  refine ez_iadd dX3_indexBehind_42 ?_
  refine ez_topE (y := nI (((((0 + ca) * 8) + cb) * 8) + (min cc k))) (nI_add _ _) ?_
  refine ez_istore_n (l' := [(3, .int (nI (((((0 + ca) * 8) + cb) * 8) + (min cc k)))), (4, .int 2), (0, .ref 105), (1, .int 2), (2, .int (nI k))]) dX3_indexBehind_43 rfl (by decide) rfl ?_
  refine ez_iinc (v := 3) (l' := [(4, .int 3), (3, .int (nI (((((0 + ca) * 8) + cb) * 8) + (min cc k)))), (0, .ref 105), (1, .int 2), (2, .int (nI k))]) dX3_indexBehind_44 rfl (by decide) (by decide) rfl ?_
  refine ez_goto (tgt := 5) dX3_indexBehind_47 (by decide) ?_
  refine ez_iload (i := 4) dX3_indexBehind_5 rfl ?_
  refine ez_iconst (v := 3) dX3_indexBehind_7 (by decide) ?_
  refine ez_icmp_ge (tgt := 50) dX3_indexBehind_8 (by decide) (fun c7 => ?_) (fun c7 => absurd (by decide) c7)
  refine ez_iload_n (i := 3) dX3_indexBehind_50 rfl rfl ?_
  refine ez_iret dX3_indexBehind_51 rfl rfl ?_
  exact ⟨rfl, congrArg (fun z => some (Value.int (nI z))) (by omega)⟩
theorem k_idx_3 {n : Nat} {sl : Nat × Nat} {kd : Nat → Nat × Nat} {I : Nat → Nat → Int32} {L : Nat → Nat → Int64} {Rf : Nat → Nat → Option Nat} (d : Nat) {T : zT} {H : Nat} {I0 g : Nat → Nat → Int32} {L0 : Nat → Nat → Int64} {R0 : Nat → Nat → Option Nat} {G Bf : Option (Nat → Int32)} {w : Bool} (hK : zK n kd I0 L0 R0 g I L Rf T G Bf w) (hO : zOk H T) (hH : H ≤ 1000000000) {ca cb cc : Nat} (h7 : ca ≤ 7 ∧ cb ≤ 7 ∧ cc ≤ 7) (hl : g 107 0 = nI ca ∧ g 107 1 = nI cb ∧ g 107 2 = nI cc) : zq mX3_indexBehind (d + 20) [.ref 105, .int 3, .int 0] (n, sl, kd, I, L, Rf) (eb_r (nI (64 * ca + 8 * cb + cc)) (n, sl, kd, I, L, Rf)) := by
  have hC := hK.C; have hF := hC.F; have hc7 := hO.c
  intro f B
  refine ez_meth pn_X.2.2.2.1 (Nat.le_of_ble_eq_true rfl) ?_
  show ez_P _ _ _ _ _ _ 0 [(0, .ref 105), (1, .int 3), (2, .int 0)] [] (n, sl, kd, I, L, Rf) _
  refine ez_iconst (v := 0) dX3_indexBehind_0 (by decide) ?_
  refine ez_istore_n (l' := [(3, .int 0), (0, .ref 105), (1, .int 3), (2, .int 0)]) dX3_indexBehind_1 rfl (by decide) rfl ?_
  refine ez_iconst (v := 0) dX3_indexBehind_2 (by decide) ?_
  refine ez_istore (l' := [(4, .int 0), (3, .int 0), (0, .ref 105), (1, .int 3), (2, .int 0)]) dX3_indexBehind_3 (by decide) rfl ?_
  refine ez_iload (i := 4) dX3_indexBehind_5 rfl ?_
  refine ez_iconst (v := 3) dX3_indexBehind_7 (by decide) ?_
  refine ez_icmp_ge (tgt := 50) dX3_indexBehind_8 (by decide) (fun c1 => absurd c1 (by decide)) (fun c1 => ?_)
  refine ez_iload_n (i := 3) dX3_indexBehind_11 rfl rfl ?_
  refine ez_bipush (v := 8) dX3_indexBehind_12 (by decide) ?_
  refine ez_imul dX3_indexBehind_14 ?_
  refine ez_topE (y := 0) (by decide) ?_
  refine ez_iload (i := 4) dX3_indexBehind_15 rfl ?_
  refine ez_iload_n (i := 1) dX3_indexBehind_17 rfl rfl ?_
  refine ez_icmp_ge (tgt := 31) dX3_indexBehind_18 (by decide) (fun c2 => absurd c2 (by decide)) (fun c2 => ?_)
  refine ez_aload_n (i := 0) dX3_indexBehind_21 rfl rfl ?_
  refine ez_getR dX3_indexBehind_22 flX3_15 (hF.lt (by decide)) (hF.kc (by decide) rfl) (hF.pt 102 rfl) ?_
  refine ez_iload (i := 4) dX3_indexBehind_25 rfl ?_
  refine ez_iaN (k := 0) dX3_indexBehind_27 (hF.lt (by decide)) (hF.ka (by decide) rfl) (by decide) (by decide) ?_
  refine ez_topE (y := nI ca) ((congrFun (hK.g 107 (by unfold zgk; omega)) _).trans hl.1) ?_
  refine ez_goto (tgt := 42) dX3_indexBehind_28 (by decide) ?_
  refine ez_iadd dX3_indexBehind_42 ?_
  refine ez_topE (y := nI (0 + ca)) (nI_add _ _) ?_
  refine ez_istore_n (l' := [(3, .int (nI (0 + ca))), (4, .int 0), (0, .ref 105), (1, .int 3), (2, .int 0)]) dX3_indexBehind_43 rfl (by decide) rfl ?_
  refine ez_iinc (v := 1) (l' := [(4, .int 1), (3, .int (nI (0 + ca))), (0, .ref 105), (1, .int 3), (2, .int 0)]) dX3_indexBehind_44 rfl (by decide) (by decide) rfl ?_
  refine ez_goto (tgt := 5) dX3_indexBehind_47 (by decide) ?_
  refine ez_iload (i := 4) dX3_indexBehind_5 rfl ?_
  refine ez_iconst (v := 3) dX3_indexBehind_7 (by decide) ?_
  refine ez_icmp_ge (tgt := 50) dX3_indexBehind_8 (by decide) (fun c3 => absurd c3 (by decide)) (fun c3 => ?_)
  refine ez_iload_n (i := 3) dX3_indexBehind_11 rfl rfl ?_
  refine ez_bipush (v := 8) dX3_indexBehind_12 (by decide) ?_
  refine ez_imul dX3_indexBehind_14 ?_
  refine ez_topE (y := nI ((0 + ca) * 8)) (nI_mul _ _) ?_
  refine ez_iload (i := 4) dX3_indexBehind_15 rfl ?_
  refine ez_iload_n (i := 1) dX3_indexBehind_17 rfl rfl ?_
  refine ez_icmp_ge (tgt := 31) dX3_indexBehind_18 (by decide) (fun c4 => absurd c4 (by decide)) (fun c4 => ?_)
  refine ez_aload_n (i := 0) dX3_indexBehind_21 rfl rfl ?_
  refine ez_getR dX3_indexBehind_22 flX3_15 (hF.lt (by decide)) (hF.kc (by decide) rfl) (hF.pt 102 rfl) ?_
  refine ez_iload (i := 4) dX3_indexBehind_25 rfl ?_
  refine ez_iaN (k := 1) dX3_indexBehind_27 (hF.lt (by decide)) (hF.ka (by decide) rfl) (by decide) (by decide) ?_
  refine ez_topE (y := nI cb) ((congrFun (hK.g 107 (by unfold zgk; omega)) _).trans hl.2.1) ?_
  refine ez_goto (tgt := 42) dX3_indexBehind_28 (by decide) ?_
  refine ez_iadd dX3_indexBehind_42 ?_
  refine ez_topE (y := nI (((0 + ca) * 8) + cb)) (nI_add _ _) ?_
  refine ez_istore_n (l' := [(3, .int (nI (((0 + ca) * 8) + cb))), (4, .int 1), (0, .ref 105), (1, .int 3), (2, .int 0)]) dX3_indexBehind_43 rfl (by decide) rfl ?_
  refine ez_iinc (v := 2) (l' := [(4, .int 2), (3, .int (nI (((0 + ca) * 8) + cb))), (0, .ref 105), (1, .int 3), (2, .int 0)]) dX3_indexBehind_44 rfl (by decide) (by decide) rfl ?_
  refine ez_goto (tgt := 5) dX3_indexBehind_47 (by decide) ?_
  refine ez_iload (i := 4) dX3_indexBehind_5 rfl ?_
  refine ez_iconst (v := 3) dX3_indexBehind_7 (by decide) ?_
  refine ez_icmp_ge (tgt := 50) dX3_indexBehind_8 (by decide) (fun c5 => absurd c5 (by decide)) (fun c5 => ?_)
  refine ez_iload_n (i := 3) dX3_indexBehind_11 rfl rfl ?_
  refine ez_bipush (v := 8) dX3_indexBehind_12 (by decide) ?_
  refine ez_imul dX3_indexBehind_14 ?_
  refine ez_topE (y := nI ((((0 + ca) * 8) + cb) * 8)) (nI_mul _ _) ?_
  refine ez_iload (i := 4) dX3_indexBehind_15 rfl ?_
  refine ez_iload_n (i := 1) dX3_indexBehind_17 rfl rfl ?_
  refine ez_icmp_ge (tgt := 31) dX3_indexBehind_18 (by decide) (fun c6 => absurd c6 (by decide)) (fun c6 => ?_)
  refine ez_aload_n (i := 0) dX3_indexBehind_21 rfl rfl ?_
  refine ez_getR dX3_indexBehind_22 flX3_15 (hF.lt (by decide)) (hF.kc (by decide) rfl) (hF.pt 102 rfl) ?_
  refine ez_iload (i := 4) dX3_indexBehind_25 rfl ?_
  refine ez_iaN (k := 2) dX3_indexBehind_27 (hF.lt (by decide)) (hF.ka (by decide) rfl) (by decide) (by decide) ?_
  refine ez_topE (y := nI cc) ((congrFun (hK.g 107 (by unfold zgk; omega)) _).trans hl.2.2) ?_
  refine ez_goto (tgt := 42) dX3_indexBehind_28 (by decide) ?_
  refine ez_iadd dX3_indexBehind_42 ?_
  refine ez_topE (y := nI (((((0 + ca) * 8) + cb) * 8) + cc)) (nI_add _ _) ?_
  refine ez_istore_n (l' := [(3, .int (nI (((((0 + ca) * 8) + cb) * 8) + cc))), (4, .int 2), (0, .ref 105), (1, .int 3), (2, .int 0)]) dX3_indexBehind_43 rfl (by decide) rfl ?_
  refine ez_iinc (v := 3) (l' := [(4, .int 3), (3, .int (nI (((((0 + ca) * 8) + cb) * 8) + cc))), (0, .ref 105), (1, .int 3), (2, .int 0)]) dX3_indexBehind_44 rfl (by decide) (by decide) rfl ?_
  refine ez_goto (tgt := 5) dX3_indexBehind_47 (by decide) ?_
  refine ez_iload (i := 4) dX3_indexBehind_5 rfl ?_
  refine ez_iconst (v := 3) dX3_indexBehind_7 (by decide) ?_
  refine ez_icmp_ge (tgt := 50) dX3_indexBehind_8 (by decide) (fun c7 => ?_) (fun c7 => absurd (by decide) c7)
  refine ez_iload_n (i := 3) dX3_indexBehind_50 rfl rfl ?_
  refine ez_iret dX3_indexBehind_51 rfl rfl ?_
  exact ⟨rfl, congrArg (fun z => some (Value.int (nI z))) (by omega)⟩
