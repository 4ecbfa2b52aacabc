/-! cake on the class -/
/-- whether what is left wins -/
def zwt1 (p : Nat) : Int32 := if p = 0 then 1 else if zlose.contains p = true then 0 else 1
def zw0 (t : Nat → Int32) (b c i : Nat) : Option Nat := if t (64 * i + 8 * min b i + min c i) = 0 then some i else none
def zw1 (t : Nat → Int32) (a b c i : Nat) : Option Nat := if t (64 * a + 8 * min b i + min c i) = 0 then some (10 + i) else none
def zw2 (t : Nat → Int32) (a b c i : Nat) : Option Nat := if t (64 * a + 8 * b + min c i) = 0 then some (20 + i) else none
def zwin (t : Nat → Int32) (a b c : Nat) : Option Nat := match zfb (zw0 t b c) a 0 with
  | some q => some q
  | none => match zfb (zw1 t a b c) b 0 with
    | some q => some q
    | none => zfb (zw2 t a b c) c 0
def zwk (R : Nat) (t : Nat → Int32) (x y z : Nat) : Prop := ∀ x' y' z', y' ≤ x' → z' ≤ y' → (R ≤ 1 → y' = 0) → (R ≤ 2 → z' = 0) → zl3 x' y' z' x y z → t (64 * x' + 8 * y' + z') = zwt1 (64 * x' + 8 * y' + z')
theorem zwin_cg {R : Nat} {t : Nat → Int32} {a b c : Nat} (hb : b ≤ a) (hc : c ≤ b) (h1 : R ≤ 1 → b = 0) (h2 : R ≤ 2 → c = 0) (h : zwk R t a b c) : zwin t a b c = zwin zwt1 a b c := by
  unfold zwin
  rw [zfb_cg (f := zw0 t b c) (g := zw0 zwt1 b c) a 0 (fun k g1 g2 => by unfold zw0; rw [h k (min b k) (min c k) (by omega) (by omega) (by omega) (by omega) (Or.inl (by omega))]),
    zfb_cg (f := zw1 t a b c) (g := zw1 zwt1 a b c) b 0 (fun k g1 g2 => by unfold zw1; rw [h a (min b k) (min c k) (by omega) (by omega) (by omega) (by omega) (Or.inr ⟨rfl, Or.inl (by omega)⟩)]),
    zfb_cg (f := zw2 t a b c) (g := zw2 zwt1 a b c) c 0 (fun k g1 g2 => by unfold zw2; rw [h a b (min c k) (by omega) (by omega) (by omega) (by omega) (Or.inr ⟨rfl, Or.inr ⟨rfl, by omega⟩⟩)])]
theorem zwin_ok : ((List.range 8).all fun x => (List.range 8).all fun y => (List.range 8).all fun z => if y ≤ x ∧ z ≤ y then decide (zwin zwt1 x y z = zpie zct1 x y z) && (match zwin zwt1 x y z with
  | none => (x == 0) || zwt1 (64 * x + 8 * y + z) == 0
  | some _ => zwt1 (64 * x + 8 * y + z) == 1) else true) = true := by decide +kernel
theorem zwin_k {x y z : Nat} (hx : x < 8) (h2 : y ≤ x) (h3 : z ≤ y) : zwin zwt1 x y z = zpie zct1 x y z ∧ (zwin zwt1 x y z = none → x = 0 ∨ zwt1 (64 * x + 8 * y + z) = 0) ∧ (¬ zwin zwt1 x y z = none → zwt1 (64 * x + 8 * y + z) = 1) := by
  have h := List.all_eq_true.mp (List.all_eq_true.mp (List.all_eq_true.mp zwin_ok x (List.mem_range.mpr hx)) y (List.mem_range.mpr (by omega))) z (List.mem_range.mpr (by omega))
  rw [if_pos ⟨h2, h3⟩, Bool.and_eq_true] at h
  refine ⟨of_decide_eq_true h.1, ?_⟩
  have h := h.2
  cases e : zwin zwt1 x y z with
  | none =>
    rw [e] at h
    refine ⟨fun _ => ?_, fun g => absurd rfl g⟩
    rcases Bool.or_eq_true _ _ |>.mp h with g | g
    · exact Or.inl (by simpa using g)
    · exact Or.inr (eq_of_beq g)
  | some q => rw [e] at h; exact ⟨fun g => (by cases g), fun _ => eq_of_beq h⟩
theorem zwin_lt {t : Nat → Int32} {a b c q : Nat} (h : zwin t a b c = some q) (h7 : a ≤ 7 ∧ b ≤ 7 ∧ c ≤ 7) : q < 100 := by
  unfold zwin at h
  cases e : zfb (zw0 t b c) a 0 with
  | some u => rw [e] at h; cases h; have := zfb_lt (M := 0) (fun i q h => by unfold zw0 at h; split at h; cases h; omega; cases h) _ _ _ e; omega
  | none =>
    rw [e] at h
    cases e1 : zfb (zw1 t a b c) b 0 with
    | some u => rw [e1] at h; cases h; have := zfb_lt (M := 10) (fun i q h => by unfold zw1 at h; split at h; cases h; omega; cases h) _ _ _ e1; omega
    | none => rw [e1] at h; have := zfb_lt (M := 20) (fun i q h => by unfold zw2 at h; split at h; cases h; omega; cases h) _ _ _ h; omega
theorem zcr_m2 {r : Option Nat} (h : ∀ t, r = some t → t < 100) : zcr3 r = -2 ↔ r = none := by
  cases r with
  | none => exact ⟨fun _ => rfl, fun _ => rfl⟩
  | some t => exact ⟨fun e => absurd (show nI t = -2 from e) (z_wn (k := t) (by have := h t rfl; omega) (m := 0) (by omega)).1, fun e => by cases e⟩
theorem k_leave {n : Nat} {sl : Nat × Nat} {kd : Nat → Nat × Nat} {I : Nat → Nat → Int32} {L : Nat → Nat → Int64} {Rf : Nat → Nat → Option Nat} (d : Nat) {T : zT} {H : Nat} {I0 g : Nat → Nat → Int32} {L0 : Nat → Nat → Int64} {R0 : Nat → Nat → Option Nat} {G Bf : Option (Nat → Int32)} {w : Bool} (hK : zK n kd I0 L0 R0 g I L Rf T G Bf w) (hO : zOk H T) (hH : H ≤ 1000000000) (ca cb cc : Nat) : zq mX3_leave (d + 20) [.ref 105, .int (nI ca), .int (nI cb), .int (nI cc)] (n, sl, kd, I, L, Rf) (zpKg n sl kd I0 L0 R0 L Rf T G Bf w none (fun g1 => g1 107 0 = nI ca ∧ g1 107 1 = nI cb ∧ g1 107 2 = nI cc ∧ ∀ q, q ≠ 107 → g1 q = g q)) := by
  have hC := hK.C; have hF := hC.F; have hc7 := hO.c
  intro f B
  refine ez_meth pn_X.2.2.2.1 (Nat.le_of_ble_eq_true rfl) ?_
  show ez_P _ _ _ _ _ _ 0 [(0, .ref 105), (1, .int (nI ca)), (2, .int (nI cb)), (3, .int (nI cc))] [] (n, sl, kd, I, L, Rf) _
  refine ez_aload_n (i := 0) dX3_leave_0 rfl rfl ?_
  refine ez_getR dX3_leave_1 flX3_15 (hF.lt (by decide)) (hF.kc (by decide) rfl) (hF.pt 102 rfl) ?_
  refine ez_iconst (v := 0) dX3_leave_4 (by decide) ?_
  refine ez_iload_n (i := 1) dX3_leave_5 rfl rfl ?_
  refine ez_isN (k := 0) dX3_leave_6 (hF.lt (by decide)) (hF.lx (by decide)) (hF.ka (by decide) rfl) (by decide) (by decide) ?_
  refine ez_nmI (fun I1 hI1 => ?_)
  have hK2 : zK n kd I0 L0 R0 (z_set g 107 0 (nI ca)) I1 L Rf T G Bf w := by rw [hI1]; exact hK.gset (by unfold zgk; omega)
  refine ez_aload_n (i := 0) dX3_leave_7 rfl rfl ?_
  refine ez_getR dX3_leave_8 flX3_15 (hF.lt (by decide)) (hF.kc (by decide) rfl) (hF.pt 102 rfl) ?_
  refine ez_iconst (v := 1) dX3_leave_11 (by decide) ?_
  refine ez_iload_n (i := 2) dX3_leave_12 rfl rfl ?_
  refine ez_isN (k := 1) dX3_leave_13 (hF.lt (by decide)) (hF.lx (by decide)) (hF.ka (by decide) rfl) (by decide) (by decide) ?_
  refine ez_nmI (fun I3 hI3 => ?_)
  have hK4 : zK n kd I0 L0 R0 (z_set (z_set g 107 0 (nI ca)) 107 1 (nI cb)) I3 L Rf T G Bf w := by rw [hI3]; exact hK2.gset (by unfold zgk; omega)
  refine ez_aload_n (i := 0) dX3_leave_14 rfl rfl ?_
  refine ez_getR dX3_leave_15 flX3_15 (hF.lt (by decide)) (hF.kc (by decide) rfl) (hF.pt 102 rfl) ?_
  refine ez_iconst (v := 2) dX3_leave_18 (by decide) ?_
  refine ez_iload_n (i := 3) dX3_leave_19 rfl rfl ?_
  refine ez_isN (k := 2) dX3_leave_20 (hF.lt (by decide)) (hF.lx (by decide)) (hF.ka (by decide) rfl) (by decide) (by decide) ?_
  refine ez_nmI (fun I5 hI5 => ?_)
  have hK6 : zK n kd I0 L0 R0 (z_set (z_set (z_set g 107 0 (nI ca)) 107 1 (nI cb)) 107 2 (nI cc)) I5 L Rf T G Bf w := by rw [hI5]; exact hK4.gset (by unfold zgk; omega)
  refine ez_vret dX3_leave_21 rfl ?_
  exact ⟨rfl, _, _, rfl, hK6, by rw [z_set_nk (by decide), z_set_nk (by decide), z_set_at], by rw [z_set_nk (by decide), z_set_at], by rw [z_set_at], fun q hq => by rw [z_set_ne hq, z_set_ne hq, z_set_ne hq]⟩
theorem k_idx_0 {n : Nat} {sl : Nat × Nat} {kd : Nat → Nat × Nat} {I : Nat → Nat → Int32} {L : Nat → Nat → Int64} {Rf : Nat → Nat → Option Nat} (d : Nat) {T : zT} {H : Nat} {I0 g : Nat → Nat → Int32} {L0 : Nat → Nat → Int64} {R0 : Nat → Nat → Option Nat} {G Bf : Option (Nat → Int32)} {w : Bool} (hK : zK n kd I0 L0 R0 g I L Rf T G Bf w) (hO : zOk H T) (hH : H ≤ 1000000000) {ca cb cc : Nat} (h7 : ca ≤ 7 ∧ cb ≤ 7 ∧ cc ≤ 7) (hl : g 107 0 = nI ca ∧ g 107 1 = nI cb ∧ g 107 2 = nI cc) {k : Nat} (hk : k < 8) : zq mX3_indexBehind (d + 20) [.ref 105, .int 0, .int (nI k)] (n, sl, kd, I, L, Rf) (eb_r (nI (64 * min ca k + 8 * min cb k + min cc k)) (n, sl, kd, I, L, Rf)) := by
  have hC := hK.C; have hF := hC.F; have hc7 := hO.c
  intro f B
  refine ez_meth pn_X.2.2.2.1 (Nat.le_of_ble_eq_true rfl) ?_
  show ez_P _ _ _ _ _ _ 0 [(0, .ref 105), (1, .int 0), (2, .int (nI k))] [] (n, sl, kd, I, L, Rf) _
  refine ez_iconst (v := 0) dX3_indexBehind_0 (by decide) ?_
  refine ez_istore_n (l' := [(3, .int 0), (0, .ref 105), (1, .int 0), (2, .int (nI k))]) dX3_indexBehind_1 rfl (by decide) rfl ?_
  refine ez_iconst (v := 0) dX3_indexBehind_2 (by decide) ?_
  refine ez_istore (l' := [(4, .int 0), (3, .int 0), (0, .ref 105), (1, .int 0), (2, .int (nI k))]) dX3_indexBehind_3 (by decide) rfl ?_
  refine ez_iload (i := 4) dX3_indexBehind_5 rfl ?_
  refine ez_iconst (v := 3) dX3_indexBehind_7 (by decide) ?_
  refine ez_icmp_ge (tgt := 50) dX3_indexBehind_8 (by decide) (fun c1 => absurd c1 (by decide)) (fun c1 => ?_)
  refine ez_iload_n (i := 3) dX3_indexBehind_11 rfl rfl ?_
  refine ez_bipush (v := 8) dX3_indexBehind_12 (by decide) ?_
  refine ez_imul dX3_indexBehind_14 ?_
  refine ez_topE (y := 0) (by decide) ?_
  refine ez_iload (i := 4) dX3_indexBehind_15 rfl ?_
  refine ez_iload_n (i := 1) dX3_indexBehind_17 rfl rfl ?_
  refine ez_icmp_ge (tgt := 31) dX3_indexBehind_18 (by decide) (fun c2 => ?_) (fun c2 => absurd (by decide) c2)
  refine ez_aload_n (i := 0) dX3_indexBehind_31 rfl rfl ?_
  refine ez_getR dX3_indexBehind_32 flX3_15 (hF.lt (by decide)) (hF.kc (by decide) rfl) (hF.pt 102 rfl) ?_
  refine ez_iload (i := 4) dX3_indexBehind_35 rfl ?_
  refine ez_iaN (k := 0) dX3_indexBehind_37 (hF.lt (by decide)) (hF.ka (by decide) rfl) (by decide) (by decide) ?_
  refine ez_topE (y := nI ca) ((congrFun (hK.g 107 (by unfold zgk; omega)) _).trans hl.1) ?_
  refine ez_iload_n (i := 2) dX3_indexBehind_38 rfl rfl ?_
  refine ez_min dX3_indexBehind_39 xmX3_39 (Nat.le_of_ble_eq_true rfl) ?_
  refine ez_topE (y := nI (min ca k)) (z_mnn (by omega) (by omega)) ?_
  refine ez_iadd dX3_indexBehind_42 ?_
  refine ez_topE (y := nI (0 + (min ca k))) (nI_add _ _) ?_
  refine ez_istore_n (l' := [(3, .int (nI (0 + (min ca k)))), (4, .int 0), (0, .ref 105), (1, .int 0), (2, .int (nI k))]) dX3_indexBehind_43 rfl (by decide) rfl ?_
  refine ez_iinc (v := 1) (l' := [(4, .int 1), (3, .int (nI (0 + (min ca k)))), (0, .ref 105), (1, .int 0), (2, .int (nI k))]) dX3_indexBehind_44 rfl (by decide) (by decide) rfl ?_
  refine ez_goto (tgt := 5) dX3_indexBehind_47 (by decide) ?_
  refine ez_iload (i := 4) dX3_indexBehind_5 rfl ?_
  refine ez_iconst (v := 3) dX3_indexBehind_7 (by decide) ?_
  refine ez_icmp_ge (tgt := 50) dX3_indexBehind_8 (by decide) (fun c3 => absurd c3 (by decide)) (fun c3 => ?_)
  refine ez_iload_n (i := 3) dX3_indexBehind_11 rfl rfl ?_
  refine ez_bipush (v := 8) dX3_indexBehind_12 (by decide) ?_
  refine ez_imul dX3_indexBehind_14 ?_
  refine ez_topE (y := nI ((0 + (min ca k)) * 8)) (nI_mul _ _) ?_
  refine ez_iload (i := 4) dX3_indexBehind_15 rfl ?_
  refine ez_iload_n (i := 1) dX3_indexBehind_17 rfl rfl ?_
  refine ez_icmp_ge (tgt := 31) dX3_indexBehind_18 (by decide) (fun c4 => ?_) (fun c4 => absurd (by decide) c4)
  refine ez_aload_n (i := 0) dX3_indexBehind_31 rfl rfl ?_
  refine ez_getR dX3_indexBehind_32 flX3_15 (hF.lt (by decide)) (hF.kc (by decide) rfl) (hF.pt 102 rfl) ?_
  refine ez_iload (i := 4) dX3_indexBehind_35 rfl ?_
  refine ez_iaN (k := 1) dX3_indexBehind_37 (hF.lt (by decide)) (hF.ka (by decide) rfl) (by decide) (by decide) ?_
  refine ez_topE (y := nI cb) ((congrFun (hK.g 107 (by unfold zgk; omega)) _).trans hl.2.1) ?_
  refine ez_iload_n (i := 2) dX3_indexBehind_38 rfl rfl ?_
  refine ez_min dX3_indexBehind_39 xmX3_39 (Nat.le_of_ble_eq_true rfl) ?_
  refine ez_topE (y := nI (min cb k)) (z_mnn (by omega) (by omega)) ?_
  refine ez_iadd dX3_indexBehind_42 ?_
  refine ez_topE (y := nI (((0 + (min ca k)) * 8) + (min cb k))) (nI_add _ _) ?_
  refine ez_istore_n (l' := [(3, .int (nI (((0 + (min ca k)) * 8) + (min cb k)))), (4, .int 1), (0, .ref 105), (1, .int 0), (2, .int (nI k))]) dX3_indexBehind_43 rfl (by decide) rfl ?_
  refine ez_iinc (v := 2) (l' := [(4, .int 2), (3, .int (nI (((0 + (min ca k)) * 8) + (min cb k)))), (0, .ref 105), (1, .int 0), (2, .int (nI k))]) dX3_indexBehind_44 rfl (by decide) (by decide) rfl ?_
  refine ez_goto (tgt := 5) dX3_indexBehind_47 (by decide) ?_
  refine ez_iload (i := 4) dX3_indexBehind_5 rfl ?_
  refine ez_iconst (v := 3) dX3_indexBehind_7 (by decide) ?_
  refine ez_icmp_ge (tgt := 50) dX3_indexBehind_8 (by decide) (fun c5 => absurd c5 (by decide)) (fun c5 => ?_)
  refine ez_iload_n (i := 3) dX3_indexBehind_11 rfl rfl ?_
  refine ez_bipush (v := 8) dX3_indexBehind_12 (by decide) ?_
  refine ez_imul dX3_indexBehind_14 ?_
  refine ez_topE (y := nI ((((0 + (min ca k)) * 8) + (min cb k)) * 8)) (nI_mul _ _) ?_
  refine ez_iload (i := 4) dX3_indexBehind_15 rfl ?_
  refine ez_iload_n (i := 1) dX3_indexBehind_17 rfl rfl ?_
  refine ez_icmp_ge (tgt := 31) dX3_indexBehind_18 (by decide) (fun c6 => ?_) (fun c6 => absurd (by decide) c6)
  refine ez_aload_n (i := 0) dX3_indexBehind_31 rfl rfl ?_
  refine ez_getR dX3_indexBehind_32 flX3_15 (hF.lt (by decide)) (hF.kc (by decide) rfl) (hF.pt 102 rfl) ?_
  refine ez_iload (i := 4) dX3_indexBehind_35 rfl ?_
  refine ez_iaN (k := 2) dX3_indexBehind_37 (hF.lt (by decide)) (hF.ka (by decide) rfl) (by decide) (by decide) ?_
  refine ez_topE (y := nI cc) ((congrFun (hK.g 107 (by unfold zgk; omega)) _).trans hl.2.2) ?_
  refine ez_iload_n (i := 2) dX3_indexBehind_38 rfl rfl ?_
  refine ez_min dX3_indexBehind_39 xmX3_39 (Nat.le_of_ble_eq_true rfl) ?_
  refine ez_topE (y := nI (min cc k)) (z_mnn (by omega) (by omega)) ?_
  refine ez_iadd dX3_indexBehind_42 ?_
  refine ez_topE (y := nI (((((0 + (min ca k)) * 8) + (min cb k)) * 8) + (min cc k))) (nI_add _ _) ?_
  refine ez_istore_n (l' := [(3, .int (nI (((((0 + (min ca k)) * 8) + (min cb k)) * 8) + (min cc k)))), (4, .int 2), (0, .ref 105), (1, .int 0), (2, .int (nI k))]) dX3_indexBehind_43 rfl (by decide) rfl ?_
  refine ez_iinc (v := 3) (l' := [(4, .int 3), (3, .int (nI (((((0 + (min ca k)) * 8) + (min cb k)) * 8) + (min cc k)))), (0, .ref 105), (1, .int 0), (2, .int (nI k))]) dX3_indexBehind_44 rfl (by decide) (by decide) rfl ?_
  refine ez_goto (tgt := 5) dX3_indexBehind_47 (by decide) ?_
  refine ez_iload (i := 4) dX3_indexBehind_5 rfl ?_
  refine ez_iconst (v := 3) dX3_indexBehind_7 (by decide) ?_
  refine ez_icmp_ge (tgt := 50) dX3_indexBehind_8 (by decide) (fun c7 => ?_) (fun c7 => absurd (by decide) c7)
  refine ez_iload_n (i := 3) dX3_indexBehind_50 rfl rfl ?_
  refine ez_iret dX3_indexBehind_51 rfl rfl ?_
  exact ⟨rfl, congrArg (fun z => some (Value.int (nI z))) (by omega)⟩
theorem k_idx_1 {n : Nat} {sl : Nat × Nat} {kd : Nat → Nat × Nat} {I : Nat → Nat → Int32} {L : Nat → Nat → Int64} {Rf : Nat → Nat → Option Nat} (d : Nat) {T : zT} {H : Nat} {I0 g : Nat → Nat → Int32} {L0 : Nat → Nat → Int64} {R0 : Nat → Nat → Option Nat} {G Bf : Option (Nat → Int32)} {w : Bool} (hK : zK n kd I0 L0 R0 g I L Rf T G Bf w) (hO : zOk H T) (hH : H ≤ 1000000000) {ca cb cc : Nat} (h7 : ca ≤ 7 ∧ cb ≤ 7 ∧ cc ≤ 7) (hl : g 107 0 = nI ca ∧ g 107 1 = nI cb ∧ g 107 2 = nI cc) {k : Nat} (hk : k < 8) : zq mX3_indexBehind (d + 20) [.ref 105, .int 1, .int (nI k)] (n, sl, kd, I, L, Rf) (eb_r (nI (64 * ca + 8 * min cb k + min cc k)) (n, sl, kd, I, L, Rf)) := by
  have hC := hK.C; have hF := hC.F; have hc7 := hO.c
  intro f B
  refine ez_meth pn_X.2.2.2.1 (Nat.le_of_ble_eq_true rfl) ?_
  show ez_P _ _ _ _ _ _ 0 [(0, .ref 105), (1, .int 1), (2, .int (nI k))] [] (n, sl, kd, I, L, Rf) _
  refine ez_iconst (v := 0) dX3_indexBehind_0 (by decide) ?_
  refine ez_istore_n (l' := [(3, .int 0), (0, .ref 105), (1, .int 1), (2, .int (nI k))]) dX3_indexBehind_1 rfl (by decide) rfl ?_
  refine ez_iconst (v := 0) dX3_indexBehind_2 (by decide) ?_
  refine ez_istore (l' := [(4, .int 0), (3, .int 0), (0, .ref 105), (1, .int 1), (2, .int (nI k))]) dX3_indexBehind_3 (by decide) rfl ?_
  refine ez_iload (i := 4) dX3_indexBehind_5 rfl ?_
  refine ez_iconst (v := 3) dX3_indexBehind_7 (by decide) ?_
  refine ez_icmp_ge (tgt := 50) dX3_indexBehind_8 (by decide) (fun c1 => absurd c1 (by decide)) (fun c1 => ?_)
  refine ez_iload_n (i := 3) dX3_indexBehind_11 rfl rfl ?_
  refine ez_bipush (v := 8) dX3_indexBehind_12 (by decide) ?_
  refine ez_imul dX3_indexBehind_14 ?_
  refine ez_topE (y := 0) (by decide) ?_
  refine ez_iload (i := 4) dX3_indexBehind_15 rfl ?_
  refine ez_iload_n (i := 1) dX3_indexBehind_17 rfl rfl ?_
  refine ez_icmp_ge (tgt := 31) dX3_indexBehind_18 (by decide) (fun c2 => absurd c2 (by decide)) (fun c2 => ?_)
  refine ez_aload_n (i := 0) dX3_indexBehind_21 rfl rfl ?_
  refine ez_getR dX3_indexBehind_22 flX3_15 (hF.lt (by decide)) (hF.kc (by decide) rfl) (hF.pt 102 rfl) ?_
  refine ez_iload (i := 4) dX3_indexBehind_25 rfl ?_
  refine ez_iaN (k := 0) dX3_indexBehind_27 (hF.lt (by decide)) (hF.ka (by decide) rfl) (by decide) (by decide) ?_
  refine ez_topE (y := nI ca) ((congrFun (hK.g 107 (by unfold zgk; omega)) _).trans hl.1) ?_
  refine ez_goto (tgt := 42) dX3_indexBehind_28 (by decide) ?_
  refine ez_iadd dX3_indexBehind_42 ?_
  refine ez_topE (y := nI (0 + ca)) (nI_add _ _) ?_
  refine ez_istore_n (l' := [(3, .int (nI (0 + ca))), (4, .int 0), (0, .ref 105), (1, .int 1), (2, .int (nI k))]) dX3_indexBehind_43 rfl (by decide) rfl ?_
  refine ez_iinc (v := 1) (l' := [(4, .int 1), (3, .int (nI (0 + ca))), (0, .ref 105), (1, .int 1), (2, .int (nI k))]) dX3_indexBehind_44 rfl (by decide) (by decide) rfl ?_
  refine ez_goto (tgt := 5) dX3_indexBehind_47 (by decide) ?_
  refine ez_iload (i := 4) dX3_indexBehind_5 rfl ?_
  refine ez_iconst (v := 3) dX3_indexBehind_7 (by decide) ?_
  refine ez_icmp_ge (tgt := 50) dX3_indexBehind_8 (by decide) (fun c3 => absurd c3 (by decide)) (fun c3 => ?_)
  refine ez_iload_n (i := 3) dX3_indexBehind_11 rfl rfl ?_
  refine ez_bipush (v := 8) dX3_indexBehind_12 (by decide) ?_
  refine ez_imul dX3_indexBehind_14 ?_
  refine ez_topE (y := nI ((0 + ca) * 8)) (nI_mul _ _) ?_
  refine ez_iload (i := 4) dX3_indexBehind_15 rfl ?_
  refine ez_iload_n (i := 1) dX3_indexBehind_17 rfl rfl ?_
  refine ez_icmp_ge (tgt := 31) dX3_indexBehind_18 (by decide) (fun c4 => ?_) (fun c4 => absurd (by decide) c4)
  refine ez_aload_n (i := 0) dX3_indexBehind_31 rfl rfl ?_
  refine ez_getR dX3_indexBehind_32 flX3_15 (hF.lt (by decide)) (hF.kc (by decide) rfl) (hF.pt 102 rfl) ?_
  refine ez_iload (i := 4) dX3_indexBehind_35 rfl ?_
  refine ez_iaN (k := 1) dX3_indexBehind_37 (hF.lt (by decide)) (hF.ka (by decide) rfl) (by decide) (by decide) ?_
  refine ez_topE (y := nI cb) ((congrFun (hK.g 107 (by unfold zgk; omega)) _).trans hl.2.1) ?_
  refine ez_iload_n (i := 2) dX3_indexBehind_38 rfl rfl ?_
  refine ez_min dX3_indexBehind_39 xmX3_39 (Nat.le_of_ble_eq_true rfl) ?_
  refine ez_topE (y := nI (min cb k)) (z_mnn (by omega) (by omega)) ?_
  refine ez_iadd dX3_indexBehind_42 ?_
  refine ez_topE (y := nI (((0 + ca) * 8) + (min cb k))) (nI_add _ _) ?_
  refine ez_istore_n (l' := [(3, .int (nI (((0 + ca) * 8) + (min cb k)))), (4, .int 1), (0, .ref 105), (1, .int 1), (2, .int (nI k))]) dX3_indexBehind_43 rfl (by decide) rfl ?_
  refine ez_iinc (v := 2) (l' := [(4, .int 2), (3, .int (nI (((0 + ca) * 8) + (min cb k)))), (0, .ref 105), (1, .int 1), (2, .int (nI k))]) dX3_indexBehind_44 rfl (by decide) (by decide) rfl ?_
  refine ez_goto (tgt := 5) dX3_indexBehind_47 (by decide) ?_
  refine ez_iload (i := 4) dX3_indexBehind_5 rfl ?_
  refine ez_iconst (v := 3) dX3_indexBehind_7 (by decide) ?_
  refine ez_icmp_ge (tgt := 50) dX3_indexBehind_8 (by decide) (fun c5 => absurd c5 (by decide)) (fun c5 => ?_)
  refine ez_iload_n (i := 3) dX3_indexBehind_11 rfl rfl ?_
  refine ez_bipush (v := 8) dX3_indexBehind_12 (by decide) ?_
  refine ez_imul dX3_indexBehind_14 ?_
  refine ez_topE (y := nI ((((0 + ca) * 8) + (min cb k)) * 8)) (nI_mul _ _) ?_
  refine ez_iload (i := 4) dX3_indexBehind_15 rfl ?_
  refine ez_iload_n (i := 1) dX3_indexBehind_17 rfl rfl ?_
  refine ez_icmp_ge (tgt := 31) dX3_indexBehind_18 (by decide) (fun c6 => ?_) (fun c6 => absurd (by decide) c6)
  refine ez_aload_n (i := 0) dX3_indexBehind_31 rfl rfl ?_
  refine ez_getR dX3_indexBehind_32 flX3_15 (hF.lt (by decide)) (hF.kc (by decide) rfl) (hF.pt 102 rfl) ?_
  refine ez_iload (i := 4) dX3_indexBehind_35 rfl ?_
  refine ez_iaN (k := 2) dX3_indexBehind_37 (hF.lt (by decide)) (hF.ka (by decide) rfl) (by decide) (by decide) ?_
  refine ez_topE (y := nI cc) ((congrFun (hK.g 107 (by unfold zgk; omega)) _).trans hl.2.2) ?_
  refine ez_iload_n (i := 2) dX3_indexBehind_38 rfl rfl ?_
  refine ez_min dX3_indexBehind_39 xmX3_39 (Nat.le_of_ble_eq_true rfl) ?_
  refine ez_topE (y := nI (min cc k)) (z_mnn (by omega) (by omega)) ?_
  refine ez_iadd dX3_indexBehind_42 ?_
  refine ez_topE (y := nI (((((0 + ca) * 8) + (min cb k)) * 8) + (min cc k))) (nI_add _ _) ?_
  refine ez_istore_n (l' := [(3, .int (nI (((((0 + ca) * 8) + (min cb k)) * 8) + (min cc k)))), (4, .int 2), (0, .ref 105), (1, .int 1), (2, .int (nI k))]) dX3_indexBehind_43 rfl (by decide) rfl ?_
  refine ez_iinc (v := 3) (l' := [(4, .int 3), (3, .int (nI (((((0 + ca) * 8) + (min cb k)) * 8) + (min cc k)))), (0, .ref 105), (1, .int 1), (2, .int (nI k))]) dX3_indexBehind_44 rfl (by decide) (by decide) rfl ?_
  refine ez_goto (tgt := 5) dX3_indexBehind_47 (by decide) ?_
  refine ez_iload (i := 4) dX3_indexBehind_5 rfl ?_
  refine ez_iconst (v := 3) dX3_indexBehind_7 (by decide) ?_
  refine ez_icmp_ge (tgt := 50) dX3_indexBehind_8 (by decide) (fun c7 => ?_) (fun c7 => absurd (by decide) c7)
  refine ez_iload_n (i := 3) dX3_indexBehind_50 rfl rfl ?_
  refine ez_iret dX3_indexBehind_51 rfl rfl ?_
  exact ⟨rfl, congrArg (fun z => some (Value.int (nI z))) (by omega)⟩
theorem k_idx_2 {n : Nat} {sl : Nat × Nat} {kd : Nat → Nat × Nat} {I : Nat → Nat → Int32} {L : Nat → Nat → Int64} {Rf : Nat → Nat → Option Nat} (d : Nat) {T : zT} {H : Nat} {I0 g : Nat → Nat → Int32} {L0 : Nat → Nat → Int64} {R0 : Nat → Nat → Option Nat} {G Bf : Option (Nat → Int32)} {w : Bool} (hK : zK n kd I0 L0 R0 g I L Rf T G Bf w) (hO : zOk H T) (hH : H ≤ 1000000000) {ca cb cc : Nat} (h7 : ca ≤ 7 ∧ cb ≤ 7 ∧ cc ≤ 7) (hl : g 107 0 = nI ca ∧ g 107 1 = nI cb ∧ g 107 2 = nI cc) {k : Nat} (hk : k < 8) : zq mX3_indexBehind (d + 20) [.ref 105, .int 2, .int (nI k)] (n, sl, kd, I, L, Rf) (eb_r (nI (64 * ca + 8 * cb + min cc k)) (n, sl, kd, I, L, Rf)) := by
  have hC := hK.C; have hF := hC.F; have hc7 := hO.c
  intro f B
  refine ez_meth pn_X.2.2.2.1 (Nat.le_of_ble_eq_true rfl) ?_
  show ez_P _ _ _ _ _ _ 0 [(0, .ref 105), (1, .int 2), (2, .int (nI k))] [] (n, sl, kd, I, L, Rf) _
  refine ez_iconst (v := 0) dX3_indexBehind_0 (by decide) ?_
  refine ez_istore_n (l' := [(3, .int 0), (0, .ref 105), (1, .int 2), (2, .int (nI k))]) dX3_indexBehind_1 rfl (by decide) rfl ?_
  refine ez_iconst (v := 0) dX3_indexBehind_2 (by decide) ?_
  refine ez_istore (l' := [(4, .int 0), (3, .int 0), (0, .ref 105), (1, .int 2), (2, .int (nI k))]) dX3_indexBehind_3 (by decide) rfl ?_
  refine ez_iload (i := 4) dX3_indexBehind_5 rfl ?_
  refine ez_iconst (v := 3) dX3_indexBehind_7 (by decide) ?_
  refine ez_icmp_ge (tgt := 50) dX3_indexBehind_8 (by decide) (fun c1 => absurd c1 (by decide)) (fun c1 => ?_)
  refine ez_iload_n (i := 3) dX3_indexBehind_11 rfl rfl ?_
  refine ez_bipush (v := 8) dX3_indexBehind_12 (by decide) ?_
  refine ez_imul dX3_indexBehind_14 ?_
  refine ez_topE (y := 0) (by decide) ?_
  refine ez_iload (i := 4) dX3_indexBehind_15 rfl ?_
  refine ez_iload_n (i := 1) dX3_indexBehind_17 rfl rfl ?_
  refine ez_icmp_ge (tgt := 31) dX3_indexBehind_18 (by decide) (fun c2 => absurd c2 (by decide)) (fun c2 => ?_)
  refine ez_aload_n (i := 0) dX3_indexBehind_21 rfl rfl ?_
  refine ez_getR dX3_indexBehind_22 flX3_15 (hF.lt (by decide)) (hF.kc (by decide) rfl) (hF.pt 102 rfl) ?_
  refine ez_iload (i := 4) dX3_indexBehind_25 rfl ?_
  refine ez_iaN (k := 0) dX3_indexBehind_27 (hF.lt (by decide)) (hF.ka (by decide) rfl) (by decide) (by decide) ?_
  refine ez_topE (y := nI ca) ((congrFun (hK.g 107 (by unfold zgk; omega)) _).trans hl.1) ?_
  refine ez_goto (tgt := 42) dX3_indexBehind_28 (by decide) ?_
  refine ez_iadd dX3_indexBehind_42 ?_
  refine ez_topE (y := nI (0 + ca)) (nI_add _ _) ?_
  refine ez_istore_n (l' := [(3, .int (nI (0 + ca))), (4, .int 0), (0, .ref 105), (1, .int 2), (2, .int (nI k))]) dX3_indexBehind_43 rfl (by decide) rfl ?_
  refine ez_iinc (v := 1) (l' := [(4, .int 1), (3, .int (nI (0 + ca))), (0, .ref 105), (1, .int 2), (2, .int (nI k))]) dX3_indexBehind_44 rfl (by decide) (by decide) rfl ?_
  refine ez_goto (tgt := 5) dX3_indexBehind_47 (by decide) ?_
  refine ez_iload (i := 4) dX3_indexBehind_5 rfl ?_
  refine ez_iconst (v := 3) dX3_indexBehind_7 (by decide) ?_
  refine ez_icmp_ge (tgt := 50) dX3_indexBehind_8 (by decide) (fun c3 => absurd c3 (by decide)) (fun c3 => ?_)
  refine ez_iload_n (i := 3) dX3_indexBehind_11 rfl rfl ?_
  refine ez_bipush (v := 8) dX3_indexBehind_12 (by decide) ?_
  refine ez_imul dX3_indexBehind_14 ?_
  refine ez_topE (y := nI ((0 + ca) * 8)) (nI_mul _ _) ?_
  refine ez_iload (i := 4) dX3_indexBehind_15 rfl ?_
  refine ez_iload_n (i := 1) dX3_indexBehind_17 rfl rfl ?_
  refine ez_icmp_ge (tgt := 31) dX3_indexBehind_18 (by decide) (fun c4 => absurd c4 (by decide)) (fun c4 => ?_)
  refine ez_aload_n (i := 0) dX3_indexBehind_21 rfl rfl ?_
  refine ez_getR dX3_indexBehind_22 flX3_15 (hF.lt (by decide)) (hF.kc (by decide) rfl) (hF.pt 102 rfl) ?_
  refine ez_iload (i := 4) dX3_indexBehind_25 rfl ?_
  refine ez_iaN (k := 1) dX3_indexBehind_27 (hF.lt (by decide)) (hF.ka (by decide) rfl) (by decide) (by decide) ?_
  refine ez_topE (y := nI cb) ((congrFun (hK.g 107 (by unfold zgk; omega)) _).trans hl.2.1) ?_
  refine ez_goto (tgt := 42) dX3_indexBehind_28 (by decide) ?_
  refine ez_iadd dX3_indexBehind_42 ?_
  refine ez_topE (y := nI (((0 + ca) * 8) + cb)) (nI_add _ _) ?_
  refine ez_istore_n (l' := [(3, .int (nI (((0 + ca) * 8) + cb))), (4, .int 1), (0, .ref 105), (1, .int 2), (2, .int (nI k))]) dX3_indexBehind_43 rfl (by decide) rfl ?_
  refine ez_iinc (v := 2) (l' := [(4, .int 2), (3, .int (nI (((0 + ca) * 8) + cb))), (0, .ref 105), (1, .int 2), (2, .int (nI k))]) dX3_indexBehind_44 rfl (by decide) (by decide) rfl ?_
  refine ez_goto (tgt := 5) dX3_indexBehind_47 (by decide) ?_
  refine ez_iload (i := 4) dX3_indexBehind_5 rfl ?_
  refine ez_iconst (v := 3) dX3_indexBehind_7 (by decide) ?_
  refine ez_icmp_ge (tgt := 50) dX3_indexBehind_8 (by decide) (fun c5 => absurd c5 (by decide)) (fun c5 => ?_)
  refine ez_iload_n (i := 3) dX3_indexBehind_11 rfl rfl ?_
  refine ez_bipush (v := 8) dX3_indexBehind_12 (by decide) ?_
  refine ez_imul dX3_indexBehind_14 ?_
  refine ez_topE (y := nI ((((0 + ca) * 8) + cb) * 8)) (nI_mul _ _) ?_
  refine ez_iload (i := 4) dX3_indexBehind_15 rfl ?_
  refine ez_iload_n (i := 1) dX3_indexBehind_17 rfl rfl ?_
  refine ez_icmp_ge (tgt := 31) dX3_indexBehind_18 (by decide) (fun c6 => ?_) (fun c6 => absurd (by decide) c6)
  refine ez_aload_n (i := 0) dX3_indexBehind_31 rfl rfl ?_
  refine ez_getR dX3_indexBehind_32 flX3_15 (hF.lt (by decide)) (hF.kc (by decide) rfl) (hF.pt 102 rfl) ?_
  refine ez_iload (i := 4) dX3_indexBehind_35 rfl ?_
  refine ez_iaN (k := 2) dX3_indexBehind_37 (hF.lt (by decide)) (hF.ka (by decide) rfl) (by decide) (by decide) ?_
  refine ez_topE (y := nI cc) ((congrFun (hK.g 107 (by unfold zgk; omega)) _).trans hl.2.2) ?_
  refine ez_iload_n (i := 2) dX3_indexBehind_38 rfl rfl ?_
  refine ez_min dX3_indexBehind_39 xmX3_39 (Nat.le_of_ble_eq_true rfl) ?_
  refine ez_topE (y := nI (min cc k)) (z_mnn (by omega) (by omega)) ?_
  refine ez_iadd dX3_indexBehind_42 ?_
  refine ez_topE (y := nI (((((0 + ca) * 8) + cb) * 8) + (min cc k))) (nI_add _ _) ?_
  refine ez_istore_n (l' := [(3, .int (nI (((((0 + ca) * 8) + cb) * 8) + (min cc k)))), (4, .int 2), (0, .ref 105), (1, .int 2), (2, .int (nI k))]) dX3_indexBehind_43 rfl (by decide) rfl ?_
  refine ez_iinc (v := 3) (l' := [(4, .int 3), (3, .int (nI (((((0 + ca) * 8) + cb) * 8) + (min cc k)))), (0, .ref 105), (1, .int 2), (2, .int (nI k))]) dX3_indexBehind_44 rfl (by decide) (by decide) rfl ?_
  refine ez_goto (tgt := 5) dX3_indexBehind_47 (by decide) ?_
  refine ez_iload (i := 4) dX3_indexBehind_5 rfl ?_
  refine ez_iconst (v := 3) dX3_indexBehind_7 (by decide) ?_
  refine ez_icmp_ge (tgt := 50) dX3_indexBehind_8 (by decide) (fun c7 => ?_) (fun c7 => absurd (by decide) c7)
  refine ez_iload_n (i := 3) dX3_indexBehind_50 rfl rfl ?_
  refine ez_iret dX3_indexBehind_51 rfl rfl ?_
  exact ⟨rfl, congrArg (fun z => some (Value.int (nI z))) (by omega)⟩
theorem k_idx_3 {n : Nat} {sl : Nat × Nat} {kd : Nat → Nat × Nat} {I : Nat → Nat → Int32} {L : Nat → Nat → Int64} {Rf : Nat → Nat → Option Nat} (d : Nat) {T : zT} {H : Nat} {I0 g : Nat → Nat → Int32} {L0 : Nat → Nat → Int64} {R0 : Nat → Nat → Option Nat} {G Bf : Option (Nat → Int32)} {w : Bool} (hK : zK n kd I0 L0 R0 g I L Rf T G Bf w) (hO : zOk H T) (hH : H ≤ 1000000000) {ca cb cc : Nat} (h7 : ca ≤ 7 ∧ cb ≤ 7 ∧ cc ≤ 7) (hl : g 107 0 = nI ca ∧ g 107 1 = nI cb ∧ g 107 2 = nI cc) : zq mX3_indexBehind (d + 20) [.ref 105, .int 3, .int 0] (n, sl, kd, I, L, Rf) (eb_r (nI (64 * ca + 8 * cb + cc)) (n, sl, kd, I, L, Rf)) := by
  have hC := hK.C; have hF := hC.F; have hc7 := hO.c
  intro f B
  refine ez_meth pn_X.2.2.2.1 (Nat.le_of_ble_eq_true rfl) ?_
  show ez_P _ _ _ _ _ _ 0 [(0, .ref 105), (1, .int 3), (2, .int 0)] [] (n, sl, kd, I, L, Rf) _
  refine ez_iconst (v := 0) dX3_indexBehind_0 (by decide) ?_
  refine ez_istore_n (l' := [(3, .int 0), (0, .ref 105), (1, .int 3), (2, .int 0)]) dX3_indexBehind_1 rfl (by decide) rfl ?_
  refine ez_iconst (v := 0) dX3_indexBehind_2 (by decide) ?_
  refine ez_istore (l' := [(4, .int 0), (3, .int 0), (0, .ref 105), (1, .int 3), (2, .int 0)]) dX3_indexBehind_3 (by decide) rfl ?_
  refine ez_iload (i := 4) dX3_indexBehind_5 rfl ?_
  refine ez_iconst (v := 3) dX3_indexBehind_7 (by decide) ?_
  refine ez_icmp_ge (tgt := 50) dX3_indexBehind_8 (by decide) (fun c1 => absurd c1 (by decide)) (fun c1 => ?_)
  refine ez_iload_n (i := 3) dX3_indexBehind_11 rfl rfl ?_
  refine ez_bipush (v := 8) dX3_indexBehind_12 (by decide) ?_
  refine ez_imul dX3_indexBehind_14 ?_
  refine ez_topE (y := 0) (by decide) ?_
  refine ez_iload (i := 4) dX3_indexBehind_15 rfl ?_
  refine ez_iload_n (i := 1) dX3_indexBehind_17 rfl rfl ?_
  refine ez_icmp_ge (tgt := 31) dX3_indexBehind_18 (by decide) (fun c2 => absurd c2 (by decide)) (fun c2 => ?_)
  refine ez_aload_n (i := 0) dX3_indexBehind_21 rfl rfl ?_
  refine ez_getR dX3_indexBehind_22 flX3_15 (hF.lt (by decide)) (hF.kc (by decide) rfl) (hF.pt 102 rfl) ?_
  refine ez_iload (i := 4) dX3_indexBehind_25 rfl ?_
  refine ez_iaN (k := 0) dX3_indexBehind_27 (hF.lt (by decide)) (hF.ka (by decide) rfl) (by decide) (by decide) ?_
  refine ez_topE (y := nI ca) ((congrFun (hK.g 107 (by unfold zgk; omega)) _).trans hl.1) ?_
  refine ez_goto (tgt := 42) dX3_indexBehind_28 (by decide) ?_
  refine ez_iadd dX3_indexBehind_42 ?_
  refine ez_topE (y := nI (0 + ca)) (nI_add _ _) ?_
  refine ez_istore_n (l' := [(3, .int (nI (0 + ca))), (4, .int 0), (0, .ref 105), (1, .int 3), (2, .int 0)]) dX3_indexBehind_43 rfl (by decide) rfl ?_
  refine ez_iinc (v := 1) (l' := [(4, .int 1), (3, .int (nI (0 + ca))), (0, .ref 105), (1, .int 3), (2, .int 0)]) dX3_indexBehind_44 rfl (by decide) (by decide) rfl ?_
  refine ez_goto (tgt := 5) dX3_indexBehind_47 (by decide) ?_
  refine ez_iload (i := 4) dX3_indexBehind_5 rfl ?_
  refine ez_iconst (v := 3) dX3_indexBehind_7 (by decide) ?_
  refine ez_icmp_ge (tgt := 50) dX3_indexBehind_8 (by decide) (fun c3 => absurd c3 (by decide)) (fun c3 => ?_)
  refine ez_iload_n (i := 3) dX3_indexBehind_11 rfl rfl ?_
  refine ez_bipush (v := 8) dX3_indexBehind_12 (by decide) ?_
  refine ez_imul dX3_indexBehind_14 ?_
  refine ez_topE (y := nI ((0 + ca) * 8)) (nI_mul _ _) ?_
  refine ez_iload (i := 4) dX3_indexBehind_15 rfl ?_
  refine ez_iload_n (i := 1) dX3_indexBehind_17 rfl rfl ?_
  refine ez_icmp_ge (tgt := 31) dX3_indexBehind_18 (by decide) (fun c4 => absurd c4 (by decide)) (fun c4 => ?_)
  refine ez_aload_n (i := 0) dX3_indexBehind_21 rfl rfl ?_
  refine ez_getR dX3_indexBehind_22 flX3_15 (hF.lt (by decide)) (hF.kc (by decide) rfl) (hF.pt 102 rfl) ?_
  refine ez_iload (i := 4) dX3_indexBehind_25 rfl ?_
  refine ez_iaN (k := 1) dX3_indexBehind_27 (hF.lt (by decide)) (hF.ka (by decide) rfl) (by decide) (by decide) ?_
  refine ez_topE (y := nI cb) ((congrFun (hK.g 107 (by unfold zgk; omega)) _).trans hl.2.1) ?_
  refine ez_goto (tgt := 42) dX3_indexBehind_28 (by decide) ?_
  refine ez_iadd dX3_indexBehind_42 ?_
  refine ez_topE (y := nI (((0 + ca) * 8) + cb)) (nI_add _ _) ?_
  refine ez_istore_n (l' := [(3, .int (nI (((0 + ca) * 8) + cb))), (4, .int 1), (0, .ref 105), (1, .int 3), (2, .int 0)]) dX3_indexBehind_43 rfl (by decide) rfl ?_
  refine ez_iinc (v := 2) (l' := [(4, .int 2), (3, .int (nI (((0 + ca) * 8) + cb))), (0, .ref 105), (1, .int 3), (2, .int 0)]) dX3_indexBehind_44 rfl (by decide) (by decide) rfl ?_
  refine ez_goto (tgt := 5) dX3_indexBehind_47 (by decide) ?_
  refine ez_iload (i := 4) dX3_indexBehind_5 rfl ?_
  refine ez_iconst (v := 3) dX3_indexBehind_7 (by decide) ?_
  refine ez_icmp_ge (tgt := 50) dX3_indexBehind_8 (by decide) (fun c5 => absurd c5 (by decide)) (fun c5 => ?_)
  refine ez_iload_n (i := 3) dX3_indexBehind_11 rfl rfl ?_
  refine ez_bipush (v := 8) dX3_indexBehind_12 (by decide) ?_
  refine ez_imul dX3_indexBehind_14 ?_
  refine ez_topE (y := nI ((((0 + ca) * 8) + cb) * 8)) (nI_mul _ _) ?_
  refine ez_iload (i := 4) dX3_indexBehind_15 rfl ?_
  refine ez_iload_n (i := 1) dX3_indexBehind_17 rfl rfl ?_
  refine ez_icmp_ge (tgt := 31) dX3_indexBehind_18 (by decide) (fun c6 => absurd c6 (by decide)) (fun c6 => ?_)
  refine ez_aload_n (i := 0) dX3_indexBehind_21 rfl rfl ?_
  refine ez_getR dX3_indexBehind_22 flX3_15 (hF.lt (by decide)) (hF.kc (by decide) rfl) (hF.pt 102 rfl) ?_
  refine ez_iload (i := 4) dX3_indexBehind_25 rfl ?_
  refine ez_iaN (k := 2) dX3_indexBehind_27 (hF.lt (by decide)) (hF.ka (by decide) rfl) (by decide) (by decide) ?_
  refine ez_topE (y := nI cc) ((congrFun (hK.g 107 (by unfold zgk; omega)) _).trans hl.2.2) ?_
  refine ez_goto (tgt := 42) dX3_indexBehind_28 (by decide) ?_
  refine ez_iadd dX3_indexBehind_42 ?_
  refine ez_topE (y := nI (((((0 + ca) * 8) + cb) * 8) + cc)) (nI_add _ _) ?_
  refine ez_istore_n (l' := [(3, .int (nI (((((0 + ca) * 8) + cb) * 8) + cc))), (4, .int 2), (0, .ref 105), (1, .int 3), (2, .int 0)]) dX3_indexBehind_43 rfl (by decide) rfl ?_
  refine ez_iinc (v := 3) (l' := [(4, .int 3), (3, .int (nI (((((0 + ca) * 8) + cb) * 8) + cc))), (0, .ref 105), (1, .int 3), (2, .int 0)]) dX3_indexBehind_44 rfl (by decide) (by decide) rfl ?_
  refine ez_goto (tgt := 5) dX3_indexBehind_47 (by decide) ?_
  refine ez_iload (i := 4) dX3_indexBehind_5 rfl ?_
  refine ez_iconst (v := 3) dX3_indexBehind_7 (by decide) ?_
  refine ez_icmp_ge (tgt := 50) dX3_indexBehind_8 (by decide) (fun c7 => ?_) (fun c7 => absurd (by decide) c7)
  refine ez_iload_n (i := 3) dX3_indexBehind_50 rfl rfl ?_
  refine ez_iret dX3_indexBehind_51 rfl rfl ?_
  exact ⟨rfl, congrArg (fun z => some (Value.int (nI z))) (by omega)⟩
theorem k_win {n : Nat} {sl : Nat × Nat} {kd : Nat → Nat × Nat} {I : Nat → Nat → Int32} {L : Nat → Nat → Int64} {Rf : Nat → Nat → Option Nat} (d : Nat) {T : zT} {H : Nat} {I0 g : Nat → Nat → Int32} {L0 : Nat → Nat → Int64} {R0 : Nat → Nat → Option Nat} {G Bf : Option (Nat → Int32)} {w : Bool} (hK : zK n kd I0 L0 R0 g I L Rf T G Bf w) (hO : zOk H T) (hH : H ≤ 1000000000) {ca cb cc : Nat} (h7 : ca ≤ 7 ∧ cb ≤ 7 ∧ cc ≤ 7) (hl : g 107 0 = nI ca ∧ g 107 1 = nI cb ∧ g 107 2 = nI cc) : zq mX3_winningPiece (d + 25) [.ref 105] (n, sl, kd, I, L, Rf) (eb_r (zcr3 (zwin (g 106) ca cb cc)) (n, sl, kd, I, L, Rf)) := by
  have hC := hK.C; have hF := hC.F; have hc7 := hO.c
  intro f B
  refine ez_meth pn_X.2.2.2.1 (Nat.le_of_ble_eq_true rfl) ?_
  show ez_P _ _ _ _ _ _ 0 [(0, .ref 105)] [] (n, sl, kd, I, L, Rf) _
  refine ez_iconst (v := 0) dX3_winningPiece_0 (by decide) ?_
  refine ez_istore_n (l' := [(1, .int 0), (0, .ref 105)]) dX3_winningPiece_1 rfl (by decide) rfl ?_
  refine ez_iload_n (i := 1) dX3_winningPiece_2 rfl rfl ?_
  refine ez_iconst (v := 3) dX3_winningPiece_3 (by decide) ?_
  refine ez_icmp_ge (tgt := 69) dX3_winningPiece_4 (by decide) (fun c1 => absurd c1 (by decide)) (fun c1 => ?_)
  refine ez_iconst (v := 0) dX3_winningPiece_7 (by decide) ?_
  refine ez_istore_n (l' := [(2, .int 0), (1, .int 0), (0, .ref 105)]) dX3_winningPiece_8 rfl (by decide) rfl ?_
  refine ez_eq (l2 := [(2, .int (nI 0)), (1, .int 0), (0, .ref 105)]) (σ2 := (n, sl, kd, I, L, Rf)) rfl rfl rfl rfl ?_
  refine ez_for ca (fun j (a : Unit) => ([(2, .int (nI j)), (1, .int 0), (0, .ref 105)], (n, sl, kd, I, L, Rf))) (fun j a => zfb (zw0 (g 106) cb cc) (ca - j) j = zfb (zw0 (g 106) cb cc) ca 0) ?_ ?_ ca 0 () (by omega) rfl
  · rintro j _ hk hin ih
    have hin : zfb (zw0 (g 106) cb cc) (ca - j) j = zfb (zw0 (g 106) cb cc) ca 0 := hin
    show ez_P _ _ _ _ _ _ 9 [(2, .int (nI j)), (1, .int 0), (0, .ref 105)] [] (n, sl, kd, I, L, Rf) _
    refine ez_iload_n (i := 2) dX3_winningPiece_9 rfl rfl ?_
    refine ez_aload_n (i := 0) dX3_winningPiece_10 rfl rfl ?_
    refine ez_getR dX3_winningPiece_11 flX3_15 (hF.lt (by decide)) (hF.kc (by decide) rfl) (hF.pt 102 rfl) ?_
    refine ez_iload_n (i := 1) dX3_winningPiece_14 rfl rfl ?_
    refine ez_iaN (k := 0) dX3_winningPiece_15 (hF.lt (by decide)) (hF.ka (by decide) rfl) (by decide) (by decide) ?_
    refine ez_topE (y := nI ca) ((congrFun (hK.g 107 (by unfold zgk; omega)) _).trans hl.1) ?_
    refine ez_icmp_ge (tgt := 63) dX3_winningPiece_16 (by decide) (fun c2 => absurd c2 (nI_ge (by omega) (by omega))) (fun c2 => ?_)
    refine ez_aload_n (i := 0) dX3_winningPiece_19 rfl rfl ?_
    refine ez_iload_n (i := 1) dX3_winningPiece_20 rfl rfl ?_
    refine ez_iload_n (i := 2) dX3_winningPiece_21 rfl rfl ?_
    refine ez_callV (M1 := mX3_indexBehind) (rest := []) dX3_winningPiece_22 mlX3_31 mvX3_indexBehind rfl (hF.lt (by decide)) (hF.kc (by decide) rfl) (Nat.le_of_ble_eq_true rfl) rfl (k_idx_0 (T := T) (I := I) (L := L) (d + 4) hK hO hH h7 hl (k := j) (by omega)) eb_rok ?_
    rintro _ _ ⟨rfl, rfl⟩
    show ez_P _ _ _ _ _ _ 25 [(2, .int (nI j)), (1, .int 0), (0, .ref 105)] (.int (nI (64 * min ca j + 8 * min cb j + min cc j)) :: []) _ _
    refine ez_istore_n (l' := [(3, .int (nI (64 * min ca j + 8 * min cb j + min cc j))), (2, .int (nI j)), (1, .int 0), (0, .ref 105)]) dX3_winningPiece_25 rfl (by decide) rfl ?_
    refine ez_iload_n (i := 3) dX3_winningPiece_26 rfl rfl ?_
    refine ez_iconst (v := 0) dX3_winningPiece_27 (by decide) ?_
    refine ez_aload_n (i := 0) dX3_winningPiece_28 rfl rfl ?_
    refine ez_getR dX3_winningPiece_29 flX3_9 (hF.lt (by decide)) (hF.kc (by decide) rfl) (hF.pt 101 rfl) ?_
    refine ez_alen (v := 512) dX3_winningPiece_32 (hF.lt (by decide)) (hF.ka (by decide) rfl) (by decide) (by decide) ?_
    refine ez_iconst (v := 1) dX3_winningPiece_33 (by decide) ?_
    refine ez_isub dX3_winningPiece_34 ?_
    refine ez_topE (y := 511) (by decide) ?_
    refine ez_callS (M1 := mX10_within) (rest := []) dX3_winningPiece_35 mlX3_35 msX10_within rfl (Nat.le_of_ble_eq_true rfl) rfl (zq_b1 (z_n9 (N := 511) (by omega) (by decide)) (zq_b (q_X10_within (d + 24) (nI (64 * min ca j + 8 * min cb j + min cc j)) 0 511) (n, sl, kd, I, L, Rf))) eb_rok ?_
    rintro _ _ ⟨rfl, rfl⟩
    show ez_P _ _ _ _ _ _ 38 [(3, .int (nI (64 * min ca j + 8 * min cb j + min cc j))), (2, .int (nI j)), (1, .int 0), (0, .ref 105)] (.int 1 :: []) _ _
    refine ez_if_eq (tgt := 57) dX3_winningPiece_38 (by decide) (fun c3 => absurd c3 (by decide)) (fun c3 => ?_)
    refine ez_aload_n (i := 0) dX3_winningPiece_41 rfl rfl ?_
    refine ez_getR dX3_winningPiece_42 flX3_9 (hF.lt (by decide)) (hF.kc (by decide) rfl) (hF.pt 101 rfl) ?_
    refine ez_iload_n (i := 3) dX3_winningPiece_45 rfl rfl ?_
    refine ez_zaN (k := (64 * min ca j + 8 * min cb j + min cc j)) dX3_winningPiece_46 (hF.lt (by decide)) (hF.ka (by decide) rfl) (by omega) (by decide) ?_
    refine ez_topE (y := g 106 (64 * min ca j + 8 * min cb j + min cc j)) (congrFun (hK.g 106 (by unfold zgk; omega)) _) ?_
    refine ez_if_ne (tgt := 57) dX3_winningPiece_47 (by decide) (fun c4 => ?_) (fun c4 => ?_)
    · skip
      refine ez_iinc (v := (nI (j + 1))) (l' := [(2, .int ((nI (j + 1)))), (3, .int (nI (64 * min ca j + 8 * min cb j + min cc j))), (1, .int 0), (0, .ref 105)]) dX3_winningPiece_57 rfl (nI_1 _) (by decide) rfl ?_
      refine ez_goto (tgt := 9) dX3_winningPiece_60 (by decide) ?_
      refine ez_sub (l' := [(2, .int ((nI (j + 1)))), (1, .int 0), (0, .ref 105)]) [0, 2, 3] rfl ?_
      exact ez_eq (l2 := [(2, .int (nI (j + 1))), (1, .int 0), (0, .ref 105)]) rfl rfl rfl rfl (ih () (zfb_step (k := j) hin (by omega) (by rw [show 64 * min ca j + 8 * min cb j + min cc j = 64 * j + 8 * min cb j + min cc j from by omega] at c4; unfold zw0; exact if_neg c4)))
    · skip
      refine ez_bipush (v := 10) dX3_winningPiece_50 (by decide) ?_
      refine ez_iload_n (i := 1) dX3_winningPiece_52 rfl rfl ?_
      refine ez_imul dX3_winningPiece_53 ?_
      refine ez_topE (y := 0) (by decide) ?_
      refine ez_iload_n (i := 2) dX3_winningPiece_54 rfl rfl ?_
      refine ez_iadd dX3_winningPiece_55 ?_
      refine ez_topE (y := nI (0 + j)) (nI_add _ _) ?_
      refine ez_iret dX3_winningPiece_56 rfl rfl ?_
      rw [show 64 * min ca j + 8 * min cb j + min cc j = 64 * j + 8 * min cb j + min cc j from by omega] at c4
      rw [show zwin (g 106) ca cb cc = some j from by unfold zwin; rw [zfb_hit (k := j) hin (by omega) (x := j) (by unfold zw0; exact if_pos (Classical.not_not.mp c4))]]
      exact ⟨rfl, congrArg (fun z => some (Value.int (nI z))) (by omega)⟩
  · rintro _ hin
    have hin : zfb (zw0 (g 106) cb cc) (ca - ca) ca = zfb (zw0 (g 106) cb cc) ca 0 := hin
    show ez_P _ _ _ _ _ _ 9 [(2, .int (nI ca)), (1, .int 0), (0, .ref 105)] [] (n, sl, kd, I, L, Rf) _
    refine ez_iload_n (i := 2) dX3_winningPiece_9 rfl rfl ?_
    refine ez_aload_n (i := 0) dX3_winningPiece_10 rfl rfl ?_
    refine ez_getR dX3_winningPiece_11 flX3_15 (hF.lt (by decide)) (hF.kc (by decide) rfl) (hF.pt 102 rfl) ?_
    refine ez_iload_n (i := 1) dX3_winningPiece_14 rfl rfl ?_
    refine ez_iaN (k := 0) dX3_winningPiece_15 (hF.lt (by decide)) (hF.ka (by decide) rfl) (by decide) (by decide) ?_
    refine ez_topE (y := nI ca) ((congrFun (hK.g 107 (by unfold zgk; omega)) _).trans hl.1) ?_
    refine ez_icmp_ge (tgt := 63) dX3_winningPiece_16 (by decide) (fun c5 => ?_) (fun c5 => absurd (nI_le (by omega) (by omega)) c5)
    refine ez_iinc (v := 1) (l' := [(1, .int 1), (2, .int (nI ca)), (0, .ref 105)]) dX3_winningPiece_63 rfl (by decide) (by decide) rfl ?_
    refine ez_goto (tgt := 2) dX3_winningPiece_66 (by decide) ?_
    refine ez_sub (l' := [(1, .int 1), (0, .ref 105)]) [0, 2] rfl ?_
    have hn0 : zfb (zw0 (g 106) cb cc) ca 0 = none := zfb_end hin (Nat.le_refl _)
    refine ez_iload_n (i := 1) dX3_winningPiece_2 rfl rfl ?_
    refine ez_iconst (v := 3) dX3_winningPiece_3 (by decide) ?_
    refine ez_icmp_ge (tgt := 69) dX3_winningPiece_4 (by decide) (fun c6 => absurd c6 (by decide)) (fun c6 => ?_)
    refine ez_iconst (v := 0) dX3_winningPiece_7 (by decide) ?_
    refine ez_istore_n (l' := [(2, .int 0), (1, .int 1), (0, .ref 105)]) dX3_winningPiece_8 rfl (by decide) rfl ?_
    refine ez_eq (l2 := [(2, .int (nI 0)), (1, .int 1), (0, .ref 105)]) (σ2 := (n, sl, kd, I, L, Rf)) rfl rfl rfl rfl ?_
    refine ez_for cb (fun j (a : Unit) => ([(2, .int (nI j)), (1, .int 1), (0, .ref 105)], (n, sl, kd, I, L, Rf))) (fun j a => zfb (zw1 (g 106) ca cb cc) (cb - j) j = zfb (zw1 (g 106) ca cb cc) cb 0) ?_ ?_ cb 0 () (by omega) rfl
    · rintro j _ hk hin ih
      have hin : zfb (zw1 (g 106) ca cb cc) (cb - j) j = zfb (zw1 (g 106) ca cb cc) cb 0 := hin
      show ez_P _ _ _ _ _ _ 9 [(2, .int (nI j)), (1, .int 1), (0, .ref 105)] [] (n, sl, kd, I, L, Rf) _
      refine ez_iload_n (i := 2) dX3_winningPiece_9 rfl rfl ?_
      refine ez_aload_n (i := 0) dX3_winningPiece_10 rfl rfl ?_
      refine ez_getR dX3_winningPiece_11 flX3_15 (hF.lt (by decide)) (hF.kc (by decide) rfl) (hF.pt 102 rfl) ?_
      refine ez_iload_n (i := 1) dX3_winningPiece_14 rfl rfl ?_
      refine ez_iaN (k := 1) dX3_winningPiece_15 (hF.lt (by decide)) (hF.ka (by decide) rfl) (by decide) (by decide) ?_
      refine ez_topE (y := nI cb) ((congrFun (hK.g 107 (by unfold zgk; omega)) _).trans hl.2.1) ?_
      refine ez_icmp_ge (tgt := 63) dX3_winningPiece_16 (by decide) (fun c7 => absurd c7 (nI_ge (by omega) (by omega))) (fun c7 => ?_)
      refine ez_aload_n (i := 0) dX3_winningPiece_19 rfl rfl ?_
      refine ez_iload_n (i := 1) dX3_winningPiece_20 rfl rfl ?_
      refine ez_iload_n (i := 2) dX3_winningPiece_21 rfl rfl ?_
      refine ez_callV (M1 := mX3_indexBehind) (rest := []) dX3_winningPiece_22 mlX3_31 mvX3_indexBehind rfl (hF.lt (by decide)) (hF.kc (by decide) rfl) (Nat.le_of_ble_eq_true rfl) rfl (k_idx_1 (T := T) (I := I) (L := L) (d + 4) hK hO hH h7 hl (k := j) (by omega)) eb_rok ?_
      rintro _ _ ⟨rfl, rfl⟩
      show ez_P _ _ _ _ _ _ 25 [(2, .int (nI j)), (1, .int 1), (0, .ref 105)] (.int (nI (64 * ca + 8 * min cb j + min cc j)) :: []) _ _
      refine ez_istore_n (l' := [(3, .int (nI (64 * ca + 8 * min cb j + min cc j))), (2, .int (nI j)), (1, .int 1), (0, .ref 105)]) dX3_winningPiece_25 rfl (by decide) rfl ?_
      refine ez_iload_n (i := 3) dX3_winningPiece_26 rfl rfl ?_
      refine ez_iconst (v := 0) dX3_winningPiece_27 (by decide) ?_
      refine ez_aload_n (i := 0) dX3_winningPiece_28 rfl rfl ?_
      refine ez_getR dX3_winningPiece_29 flX3_9 (hF.lt (by decide)) (hF.kc (by decide) rfl) (hF.pt 101 rfl) ?_
      refine ez_alen (v := 512) dX3_winningPiece_32 (hF.lt (by decide)) (hF.ka (by decide) rfl) (by decide) (by decide) ?_
      refine ez_iconst (v := 1) dX3_winningPiece_33 (by decide) ?_
      refine ez_isub dX3_winningPiece_34 ?_
      refine ez_topE (y := 511) (by decide) ?_
      refine ez_callS (M1 := mX10_within) (rest := []) dX3_winningPiece_35 mlX3_35 msX10_within rfl (Nat.le_of_ble_eq_true rfl) rfl (zq_b1 (z_n9 (N := 511) (by omega) (by decide)) (zq_b (q_X10_within (d + 24) (nI (64 * ca + 8 * min cb j + min cc j)) 0 511) (n, sl, kd, I, L, Rf))) eb_rok ?_
      rintro _ _ ⟨rfl, rfl⟩
      show ez_P _ _ _ _ _ _ 38 [(3, .int (nI (64 * ca + 8 * min cb j + min cc j))), (2, .int (nI j)), (1, .int 1), (0, .ref 105)] (.int 1 :: []) _ _
      refine ez_if_eq (tgt := 57) dX3_winningPiece_38 (by decide) (fun c8 => absurd c8 (by decide)) (fun c8 => ?_)
      refine ez_aload_n (i := 0) dX3_winningPiece_41 rfl rfl ?_
      refine ez_getR dX3_winningPiece_42 flX3_9 (hF.lt (by decide)) (hF.kc (by decide) rfl) (hF.pt 101 rfl) ?_
      refine ez_iload_n (i := 3) dX3_winningPiece_45 rfl rfl ?_
      refine ez_zaN (k := (64 * ca + 8 * min cb j + min cc j)) dX3_winningPiece_46 (hF.lt (by decide)) (hF.ka (by decide) rfl) (by omega) (by decide) ?_
      refine ez_topE (y := g 106 (64 * ca + 8 * min cb j + min cc j)) (congrFun (hK.g 106 (by unfold zgk; omega)) _) ?_
      refine ez_if_ne (tgt := 57) dX3_winningPiece_47 (by decide) (fun c9 => ?_) (fun c9 => ?_)
      · skip
        refine ez_iinc (v := (nI (j + 1))) (l' := [(2, .int ((nI (j + 1)))), (3, .int (nI (64 * ca + 8 * min cb j + min cc j))), (1, .int 1), (0, .ref 105)]) dX3_winningPiece_57 rfl (nI_1 _) (by decide) rfl ?_
        refine ez_goto (tgt := 9) dX3_winningPiece_60 (by decide) ?_
        refine ez_sub (l' := [(2, .int ((nI (j + 1)))), (1, .int 1), (0, .ref 105)]) [0, 2, 3] rfl ?_
        exact ez_eq (l2 := [(2, .int (nI (j + 1))), (1, .int 1), (0, .ref 105)]) rfl rfl rfl rfl (ih () (zfb_step (k := j) hin (by omega) (by unfold zw1; exact if_neg c9)))
      · skip
        refine ez_bipush (v := 10) dX3_winningPiece_50 (by decide) ?_
        refine ez_iload_n (i := 1) dX3_winningPiece_52 rfl rfl ?_
        refine ez_imul dX3_winningPiece_53 ?_
        refine ez_topE (y := 10) (by decide) ?_
        refine ez_iload_n (i := 2) dX3_winningPiece_54 rfl rfl ?_
        refine ez_iadd dX3_winningPiece_55 ?_
        refine ez_topE (y := nI (10 + j)) (nI_add _ _) ?_
        refine ez_iret dX3_winningPiece_56 rfl rfl ?_
        rw [show zwin (g 106) ca cb cc = some (10 + j) from by unfold zwin; rw [hn0]; rw [zfb_hit (k := j) hin (by omega) (x := (10 + j)) (by unfold zw1; exact if_pos (Classical.not_not.mp c9))]]
        exact ⟨rfl, congrArg (fun z => some (Value.int (nI z))) (by omega)⟩
    · rintro _ hin
      have hin : zfb (zw1 (g 106) ca cb cc) (cb - cb) cb = zfb (zw1 (g 106) ca cb cc) cb 0 := hin
      show ez_P _ _ _ _ _ _ 9 [(2, .int (nI cb)), (1, .int 1), (0, .ref 105)] [] (n, sl, kd, I, L, Rf) _
      refine ez_iload_n (i := 2) dX3_winningPiece_9 rfl rfl ?_
      refine ez_aload_n (i := 0) dX3_winningPiece_10 rfl rfl ?_
      refine ez_getR dX3_winningPiece_11 flX3_15 (hF.lt (by decide)) (hF.kc (by decide) rfl) (hF.pt 102 rfl) ?_
      refine ez_iload_n (i := 1) dX3_winningPiece_14 rfl rfl ?_
      refine ez_iaN (k := 1) dX3_winningPiece_15 (hF.lt (by decide)) (hF.ka (by decide) rfl) (by decide) (by decide) ?_
      refine ez_topE (y := nI cb) ((congrFun (hK.g 107 (by unfold zgk; omega)) _).trans hl.2.1) ?_
      refine ez_icmp_ge (tgt := 63) dX3_winningPiece_16 (by decide) (fun c10 => ?_) (fun c10 => absurd (nI_le (by omega) (by omega)) c10)
      refine ez_iinc (v := 2) (l' := [(1, .int 2), (2, .int (nI cb)), (0, .ref 105)]) dX3_winningPiece_63 rfl (by decide) (by decide) rfl ?_
      refine ez_goto (tgt := 2) dX3_winningPiece_66 (by decide) ?_
      refine ez_sub (l' := [(1, .int 2), (0, .ref 105)]) [0, 2] rfl ?_
      have hn1 : zfb (zw1 (g 106) ca cb cc) cb 0 = none := zfb_end hin (Nat.le_refl _)
      refine ez_iload_n (i := 1) dX3_winningPiece_2 rfl rfl ?_
      refine ez_iconst (v := 3) dX3_winningPiece_3 (by decide) ?_
      refine ez_icmp_ge (tgt := 69) dX3_winningPiece_4 (by decide) (fun c11 => absurd c11 (by decide)) (fun c11 => ?_)
      refine ez_iconst (v := 0) dX3_winningPiece_7 (by decide) ?_
      refine ez_istore_n (l' := [(2, .int 0), (1, .int 2), (0, .ref 105)]) dX3_winningPiece_8 rfl (by decide) rfl ?_
      refine ez_eq (l2 := [(2, .int (nI 0)), (1, .int 2), (0, .ref 105)]) (σ2 := (n, sl, kd, I, L, Rf)) rfl rfl rfl rfl ?_
      refine ez_for cc (fun j (a : Unit) => ([(2, .int (nI j)), (1, .int 2), (0, .ref 105)], (n, sl, kd, I, L, Rf))) (fun j a => zfb (zw2 (g 106) ca cb cc) (cc - j) j = zfb (zw2 (g 106) ca cb cc) cc 0) ?_ ?_ cc 0 () (by omega) rfl
      · rintro j _ hk hin ih
        have hin : zfb (zw2 (g 106) ca cb cc) (cc - j) j = zfb (zw2 (g 106) ca cb cc) cc 0 := hin
        show ez_P _ _ _ _ _ _ 9 [(2, .int (nI j)), (1, .int 2), (0, .ref 105)] [] (n, sl, kd, I, L, Rf) _
        refine ez_iload_n (i := 2) dX3_winningPiece_9 rfl rfl ?_
        refine ez_aload_n (i := 0) dX3_winningPiece_10 rfl rfl ?_
        refine ez_getR dX3_winningPiece_11 flX3_15 (hF.lt (by decide)) (hF.kc (by decide) rfl) (hF.pt 102 rfl) ?_
        refine ez_iload_n (i := 1) dX3_winningPiece_14 rfl rfl ?_
        refine ez_iaN (k := 2) dX3_winningPiece_15 (hF.lt (by decide)) (hF.ka (by decide) rfl) (by decide) (by decide) ?_
        refine ez_topE (y := nI cc) ((congrFun (hK.g 107 (by unfold zgk; omega)) _).trans hl.2.2) ?_
        refine ez_icmp_ge (tgt := 63) dX3_winningPiece_16 (by decide) (fun c12 => absurd c12 (nI_ge (by omega) (by omega))) (fun c12 => ?_)
        refine ez_aload_n (i := 0) dX3_winningPiece_19 rfl rfl ?_
        refine ez_iload_n (i := 1) dX3_winningPiece_20 rfl rfl ?_
        refine ez_iload_n (i := 2) dX3_winningPiece_21 rfl rfl ?_
        refine ez_callV (M1 := mX3_indexBehind) (rest := []) dX3_winningPiece_22 mlX3_31 mvX3_indexBehind rfl (hF.lt (by decide)) (hF.kc (by decide) rfl) (Nat.le_of_ble_eq_true rfl) rfl (k_idx_2 (T := T) (I := I) (L := L) (d + 4) hK hO hH h7 hl (k := j) (by omega)) eb_rok ?_
        rintro _ _ ⟨rfl, rfl⟩
        show ez_P _ _ _ _ _ _ 25 [(2, .int (nI j)), (1, .int 2), (0, .ref 105)] (.int (nI (64 * ca + 8 * cb + min cc j)) :: []) _ _
        refine ez_istore_n (l' := [(3, .int (nI (64 * ca + 8 * cb + min cc j))), (2, .int (nI j)), (1, .int 2), (0, .ref 105)]) dX3_winningPiece_25 rfl (by decide) rfl ?_
        refine ez_iload_n (i := 3) dX3_winningPiece_26 rfl rfl ?_
        refine ez_iconst (v := 0) dX3_winningPiece_27 (by decide) ?_
        refine ez_aload_n (i := 0) dX3_winningPiece_28 rfl rfl ?_
        refine ez_getR dX3_winningPiece_29 flX3_9 (hF.lt (by decide)) (hF.kc (by decide) rfl) (hF.pt 101 rfl) ?_
        refine ez_alen (v := 512) dX3_winningPiece_32 (hF.lt (by decide)) (hF.ka (by decide) rfl) (by decide) (by decide) ?_
        refine ez_iconst (v := 1) dX3_winningPiece_33 (by decide) ?_
        refine ez_isub dX3_winningPiece_34 ?_
        refine ez_topE (y := 511) (by decide) ?_
        refine ez_callS (M1 := mX10_within) (rest := []) dX3_winningPiece_35 mlX3_35 msX10_within rfl (Nat.le_of_ble_eq_true rfl) rfl (zq_b1 (z_n9 (N := 511) (by omega) (by decide)) (zq_b (q_X10_within (d + 24) (nI (64 * ca + 8 * cb + min cc j)) 0 511) (n, sl, kd, I, L, Rf))) eb_rok ?_
        rintro _ _ ⟨rfl, rfl⟩
        show ez_P _ _ _ _ _ _ 38 [(3, .int (nI (64 * ca + 8 * cb + min cc j))), (2, .int (nI j)), (1, .int 2), (0, .ref 105)] (.int 1 :: []) _ _
        refine ez_if_eq (tgt := 57) dX3_winningPiece_38 (by decide) (fun c13 => absurd c13 (by decide)) (fun c13 => ?_)
        refine ez_aload_n (i := 0) dX3_winningPiece_41 rfl rfl ?_
        refine ez_getR dX3_winningPiece_42 flX3_9 (hF.lt (by decide)) (hF.kc (by decide) rfl) (hF.pt 101 rfl) ?_
        refine ez_iload_n (i := 3) dX3_winningPiece_45 rfl rfl ?_
        refine ez_zaN (k := (64 * ca + 8 * cb + min cc j)) dX3_winningPiece_46 (hF.lt (by decide)) (hF.ka (by decide) rfl) (by omega) (by decide) ?_
        refine ez_topE (y := g 106 (64 * ca + 8 * cb + min cc j)) (congrFun (hK.g 106 (by unfold zgk; omega)) _) ?_
        refine ez_if_ne (tgt := 57) dX3_winningPiece_47 (by decide) (fun c14 => ?_) (fun c14 => ?_)
        · skip
          refine ez_iinc (v := (nI (j + 1))) (l' := [(2, .int ((nI (j + 1)))), (3, .int (nI (64 * ca + 8 * cb + min cc j))), (1, .int 2), (0, .ref 105)]) dX3_winningPiece_57 rfl (nI_1 _) (by decide) rfl ?_
          refine ez_goto (tgt := 9) dX3_winningPiece_60 (by decide) ?_
          refine ez_sub (l' := [(2, .int ((nI (j + 1)))), (1, .int 2), (0, .ref 105)]) [0, 2, 3] rfl ?_
          exact ez_eq (l2 := [(2, .int (nI (j + 1))), (1, .int 2), (0, .ref 105)]) rfl rfl rfl rfl (ih () (zfb_step (k := j) hin (by omega) (by unfold zw2; exact if_neg c14)))
        · skip
          refine ez_bipush (v := 10) dX3_winningPiece_50 (by decide) ?_
          refine ez_iload_n (i := 1) dX3_winningPiece_52 rfl rfl ?_
          refine ez_imul dX3_winningPiece_53 ?_
          refine ez_topE (y := 20) (by decide) ?_
          refine ez_iload_n (i := 2) dX3_winningPiece_54 rfl rfl ?_
          refine ez_iadd dX3_winningPiece_55 ?_
          refine ez_topE (y := nI (20 + j)) (nI_add _ _) ?_
          refine ez_iret dX3_winningPiece_56 rfl rfl ?_
          rw [show zwin (g 106) ca cb cc = some (20 + j) from by unfold zwin; rw [hn0, hn1]; rw [zfb_hit (k := j) hin (by omega) (x := (20 + j)) (by unfold zw2; exact if_pos (Classical.not_not.mp c14))]]
          exact ⟨rfl, congrArg (fun z => some (Value.int (nI z))) (by omega)⟩
      · rintro _ hin
        have hin : zfb (zw2 (g 106) ca cb cc) (cc - cc) cc = zfb (zw2 (g 106) ca cb cc) cc 0 := hin
        show ez_P _ _ _ _ _ _ 9 [(2, .int (nI cc)), (1, .int 2), (0, .ref 105)] [] (n, sl, kd, I, L, Rf) _
        refine ez_iload_n (i := 2) dX3_winningPiece_9 rfl rfl ?_
        refine ez_aload_n (i := 0) dX3_winningPiece_10 rfl rfl ?_
        refine ez_getR dX3_winningPiece_11 flX3_15 (hF.lt (by decide)) (hF.kc (by decide) rfl) (hF.pt 102 rfl) ?_
        refine ez_iload_n (i := 1) dX3_winningPiece_14 rfl rfl ?_
        refine ez_iaN (k := 2) dX3_winningPiece_15 (hF.lt (by decide)) (hF.ka (by decide) rfl) (by decide) (by decide) ?_
        refine ez_topE (y := nI cc) ((congrFun (hK.g 107 (by unfold zgk; omega)) _).trans hl.2.2) ?_
        refine ez_icmp_ge (tgt := 63) dX3_winningPiece_16 (by decide) (fun c15 => ?_) (fun c15 => absurd (nI_le (by omega) (by omega)) c15)
        refine ez_iinc (v := 3) (l' := [(1, .int 3), (2, .int (nI cc)), (0, .ref 105)]) dX3_winningPiece_63 rfl (by decide) (by decide) rfl ?_
        refine ez_goto (tgt := 2) dX3_winningPiece_66 (by decide) ?_
        refine ez_sub (l' := [(1, .int 3), (0, .ref 105)]) [0, 2] rfl ?_
        have hn2 : zfb (zw2 (g 106) ca cb cc) cc 0 = none := zfb_end hin (Nat.le_refl _)
        refine ez_iload_n (i := 1) dX3_winningPiece_2 rfl rfl ?_
        refine ez_iconst (v := 3) dX3_winningPiece_3 (by decide) ?_
        refine ez_icmp_ge (tgt := 69) dX3_winningPiece_4 (by decide) (fun c16 => ?_) (fun c16 => absurd (by decide) c16)
        refine ez_bipush (v := (-2)) dX3_winningPiece_69 (by decide) ?_
        refine ez_iret dX3_winningPiece_71 rfl rfl ?_
        rw [show zwin (g 106) ca cb cc = none from by unfold zwin; rw [hn0, hn1]; exact hn2]
        exact ⟨rfl, rfl⟩
theorem k_setw_1 {n : Nat} {sl : Nat × Nat} {kd : Nat → Nat × Nat} {I : Nat → Nat → Int32} {L : Nat → Nat → Int64} {Rf : Nat → Nat → Option Nat} (d : Nat) {T : zT} {H : Nat} {I0 g : Nat → Nat → Int32} {L0 : Nat → Nat → Int64} {R0 : Nat → Nat → Option Nat} {G Bf : Option (Nat → Int32)} {w : Bool} (hK : zK n kd I0 L0 R0 g I L Rf T G Bf w) (hO : zOk H T) (hH : H ≤ 1000000000) {ca cb cc : Nat} (h7 : ca ≤ 7 ∧ cb ≤ 7 ∧ cc ≤ 7) (hl : g 107 0 = nI ca ∧ g 107 1 = nI cb ∧ g 107 2 = nI cc) : zq mX3_setWins (d + 25) [.ref 105, .int 1] (n, sl, kd, I, L, Rf) (zpKg n sl kd I0 L0 R0 L Rf T G Bf w none (fun g1 => (∀ p, g1 106 p = if p = 64 * ca + 8 * cb + cc then 1 else g 106 p) ∧ ∀ q, q ≠ 106 → g1 q = g q)) := by
  have hC := hK.C; have hF := hC.F; have hc7 := hO.c
  intro f B
  refine ez_meth pn_X.2.2.2.1 (Nat.le_of_ble_eq_true rfl) ?_
  show ez_P _ _ _ _ _ _ 0 [(0, .ref 105), (1, .int 1)] [] (n, sl, kd, I, L, Rf) _
  refine ez_aload_n (i := 0) dX3_setWins_0 rfl rfl ?_
  refine ez_iconst (v := 3) dX3_setWins_1 (by decide) ?_
  refine ez_iconst (v := 0) dX3_setWins_2 (by decide) ?_
  refine ez_callV (M1 := mX3_indexBehind) (rest := []) dX3_setWins_3 mlX3_31 mvX3_indexBehind rfl (hF.lt (by decide)) (hF.kc (by decide) rfl) (Nat.le_of_ble_eq_true rfl) rfl (k_idx_3 (T := T) (I := I) (L := L) (d + 4) hK hO hH h7 hl) eb_rok ?_
  rintro _ _ ⟨rfl, rfl⟩
  show ez_P _ _ _ _ _ _ 6 [(0, .ref 105), (1, .int 1)] (.int (nI (64 * ca + 8 * cb + cc)) :: []) _ _
  refine ez_istore_n (l' := [(2, .int (nI (64 * ca + 8 * cb + cc))), (0, .ref 105), (1, .int 1)]) dX3_setWins_6 rfl (by decide) rfl ?_
  refine ez_iload_n (i := 2) dX3_setWins_7 rfl rfl ?_
  refine ez_iconst (v := 0) dX3_setWins_8 (by decide) ?_
  refine ez_aload_n (i := 0) dX3_setWins_9 rfl rfl ?_
  refine ez_getR dX3_setWins_10 flX3_9 (hF.lt (by decide)) (hF.kc (by decide) rfl) (hF.pt 101 rfl) ?_
  refine ez_alen (v := 512) dX3_setWins_13 (hF.lt (by decide)) (hF.ka (by decide) rfl) (by decide) (by decide) ?_
  refine ez_iconst (v := 1) dX3_setWins_14 (by decide) ?_
  refine ez_isub dX3_setWins_15 ?_
  refine ez_topE (y := 511) (by decide) ?_
  refine ez_callS (M1 := mX10_within) (rest := []) dX3_setWins_16 mlX3_35 msX10_within rfl (Nat.le_of_ble_eq_true rfl) rfl (zq_b1 (z_n9 (N := 511) (by omega) (by decide)) (zq_b (q_X10_within (d + 24) (nI (64 * ca + 8 * cb + cc)) 0 511) (n, sl, kd, I, L, Rf))) eb_rok ?_
  rintro _ _ ⟨rfl, rfl⟩
  show ez_P _ _ _ _ _ _ 19 [(2, .int (nI (64 * ca + 8 * cb + cc))), (0, .ref 105), (1, .int 1)] (.int 1 :: []) _ _
  refine ez_if_eq (tgt := 29) dX3_setWins_19 (by decide) (fun c1 => absurd c1 (by decide)) (fun c1 => ?_)
  refine ez_aload_n (i := 0) dX3_setWins_22 rfl rfl ?_
  refine ez_getR dX3_setWins_23 flX3_9 (hF.lt (by decide)) (hF.kc (by decide) rfl) (hF.pt 101 rfl) ?_
  refine ez_iload_n (i := 2) dX3_setWins_26 rfl rfl ?_
  refine ez_iload_n (i := 1) dX3_setWins_27 rfl rfl ?_
  refine ez_zsN (k := (64 * ca + 8 * cb + cc)) dX3_setWins_28 (hF.lt (by decide)) (hF.lx (by decide)) (hF.ka (by decide) rfl) (by omega) (by decide) ?_
  refine ez_nmI (fun I2 hI2 => ?_)
  have hK3 : zK n kd I0 L0 R0 (z_set g 106 (64 * ca + 8 * cb + cc) (vp_nar .boolean 1)) I2 L Rf T G Bf w := by rw [hI2]; exact hK.gset (by unfold zgk; omega)
  refine ez_vret dX3_setWins_29 rfl ?_
  exact ⟨rfl, _, _, rfl, hK3, fun p => by by_cases e : p = 64 * ca + 8 * cb + cc; rw [e, z_set_at, if_pos rfl]; rfl; rw [z_set_nk e, if_neg e], fun q hq => z_set_ne hq⟩
theorem k_setw_0 {n : Nat} {sl : Nat × Nat} {kd : Nat → Nat × Nat} {I : Nat → Nat → Int32} {L : Nat → Nat → Int64} {Rf : Nat → Nat → Option Nat} (d : Nat) {T : zT} {H : Nat} {I0 g : Nat → Nat → Int32} {L0 : Nat → Nat → Int64} {R0 : Nat → Nat → Option Nat} {G Bf : Option (Nat → Int32)} {w : Bool} (hK : zK n kd I0 L0 R0 g I L Rf T G Bf w) (hO : zOk H T) (hH : H ≤ 1000000000) {ca cb cc : Nat} (h7 : ca ≤ 7 ∧ cb ≤ 7 ∧ cc ≤ 7) (hl : g 107 0 = nI ca ∧ g 107 1 = nI cb ∧ g 107 2 = nI cc) : zq mX3_setWins (d + 25) [.ref 105, .int 0] (n, sl, kd, I, L, Rf) (zpKg n sl kd I0 L0 R0 L Rf T G Bf w none (fun g1 => (∀ p, g1 106 p = if p = 64 * ca + 8 * cb + cc then 0 else g 106 p) ∧ ∀ q, q ≠ 106 → g1 q = g q)) := by
  have hC := hK.C; have hF := hC.F; have hc7 := hO.c
  intro f B
  refine ez_meth pn_X.2.2.2.1 (Nat.le_of_ble_eq_true rfl) ?_
  show ez_P _ _ _ _ _ _ 0 [(0, .ref 105), (1, .int 0)] [] (n, sl, kd, I, L, Rf) _
  refine ez_aload_n (i := 0) dX3_setWins_0 rfl rfl ?_
  refine ez_iconst (v := 3) dX3_setWins_1 (by decide) ?_
  refine ez_iconst (v := 0) dX3_setWins_2 (by decide) ?_
  refine ez_callV (M1 := mX3_indexBehind) (rest := []) dX3_setWins_3 mlX3_31 mvX3_indexBehind rfl (hF.lt (by decide)) (hF.kc (by decide) rfl) (Nat.le_of_ble_eq_true rfl) rfl (k_idx_3 (T := T) (I := I) (L := L) (d + 4) hK hO hH h7 hl) eb_rok ?_
  rintro _ _ ⟨rfl, rfl⟩
  show ez_P _ _ _ _ _ _ 6 [(0, .ref 105), (1, .int 0)] (.int (nI (64 * ca + 8 * cb + cc)) :: []) _ _
  refine ez_istore_n (l' := [(2, .int (nI (64 * ca + 8 * cb + cc))), (0, .ref 105), (1, .int 0)]) dX3_setWins_6 rfl (by decide) rfl ?_
  refine ez_iload_n (i := 2) dX3_setWins_7 rfl rfl ?_
  refine ez_iconst (v := 0) dX3_setWins_8 (by decide) ?_
  refine ez_aload_n (i := 0) dX3_setWins_9 rfl rfl ?_
  refine ez_getR dX3_setWins_10 flX3_9 (hF.lt (by decide)) (hF.kc (by decide) rfl) (hF.pt 101 rfl) ?_
  refine ez_alen (v := 512) dX3_setWins_13 (hF.lt (by decide)) (hF.ka (by decide) rfl) (by decide) (by decide) ?_
  refine ez_iconst (v := 1) dX3_setWins_14 (by decide) ?_
  refine ez_isub dX3_setWins_15 ?_
  refine ez_topE (y := 511) (by decide) ?_
  refine ez_callS (M1 := mX10_within) (rest := []) dX3_setWins_16 mlX3_35 msX10_within rfl (Nat.le_of_ble_eq_true rfl) rfl (zq_b1 (z_n9 (N := 511) (by omega) (by decide)) (zq_b (q_X10_within (d + 24) (nI (64 * ca + 8 * cb + cc)) 0 511) (n, sl, kd, I, L, Rf))) eb_rok ?_
  rintro _ _ ⟨rfl, rfl⟩
  show ez_P _ _ _ _ _ _ 19 [(2, .int (nI (64 * ca + 8 * cb + cc))), (0, .ref 105), (1, .int 0)] (.int 1 :: []) _ _
  refine ez_if_eq (tgt := 29) dX3_setWins_19 (by decide) (fun c1 => absurd c1 (by decide)) (fun c1 => ?_)
  refine ez_aload_n (i := 0) dX3_setWins_22 rfl rfl ?_
  refine ez_getR dX3_setWins_23 flX3_9 (hF.lt (by decide)) (hF.kc (by decide) rfl) (hF.pt 101 rfl) ?_
  refine ez_iload_n (i := 2) dX3_setWins_26 rfl rfl ?_
  refine ez_iload_n (i := 1) dX3_setWins_27 rfl rfl ?_
  refine ez_zsN (k := (64 * ca + 8 * cb + cc)) dX3_setWins_28 (hF.lt (by decide)) (hF.lx (by decide)) (hF.ka (by decide) rfl) (by omega) (by decide) ?_
  refine ez_nmI (fun I2 hI2 => ?_)
  have hK3 : zK n kd I0 L0 R0 (z_set g 106 (64 * ca + 8 * cb + cc) (vp_nar .boolean 0)) I2 L Rf T G Bf w := by rw [hI2]; exact hK.gset (by unfold zgk; omega)
  refine ez_vret dX3_setWins_29 rfl ?_
  exact ⟨rfl, _, _, rfl, hK3, fun p => by by_cases e : p = 64 * ca + 8 * cb + cc; rw [e, z_set_at, if_pos rfl]; rfl; rw [z_set_nk e, if_neg e], fun q hq => z_set_ne hq⟩
theorem k_ltw_1 {n : Nat} {sl : Nat × Nat} {kd : Nat → Nat × Nat} {I : Nat → Nat → Int32} {L : Nat → Nat → Int64} {Rf : Nat → Nat → Option Nat} (d : Nat) {T : zT} {H : Nat} {I0 g : Nat → Nat → Int32} {L0 : Nat → Nat → Int64} {R0 : Nat → Nat → Option Nat} {G Bf : Option (Nat → Int32)} {w : Bool} (hK : zK n kd I0 L0 R0 g I L Rf T G Bf w) (hO : zOk H T) (hH : H ≤ 1000000000) {n0 : Nat} (hn1 : 1 ≤ n0) (hn : n0 ≤ 7) : zq mX3_leastThatWins (d + 30) [.ref 105, .int 1, .int (nI n0)] (n, sl, kd, I, L, Rf) (zpKg n sl kd I0 L0 R0 L Rf T G Bf w (some (.int (zck 1 n0))) (fun _ => True)) := by
  have hC := hK.C; have hF := hC.F; have hc7 := hO.c
  intro f B
  refine ez_meth pn_X.2.2.2.1 (Nat.le_of_ble_eq_true rfl) ?_
  show ez_P _ _ _ _ _ _ 0 [(0, .ref 105), (1, .int 1), (2, .int (nI n0))] [] (n, sl, kd, I, L, Rf) _
  refine ez_iconst (v := 0) dX3_leastThatWins_0 (by decide) ?_
  refine ez_istore_n (l' := [(3, .int 0), (0, .ref 105), (1, .int 1), (2, .int (nI n0))]) dX3_leastThatWins_1 rfl (by decide) rfl ?_
  refine ez_eq (l2 := [(3, .int (nI 0)), (0, .ref 105), (1, .int 1), (2, .int (nI n0))]) (σ2 := (n, sl, kd, I, L, Rf)) rfl rfl rfl rfl ?_
  refine ez_for (n0 + 1) (fun k (a : (Nat → Nat → Int32) × (Nat → Nat → Int32)) => ([(3, .int (nI k)), (0, .ref 105), (1, .int 1), (2, .int (nI n0))], (n, sl, kd, a.1, L, Rf))) (fun k a => zK n kd I0 L0 R0 a.2 a.1 L Rf T G Bf w ∧ zwk 1 (a.2 106) k 0 0) ?_ ?_ (n0 + 1) 0 (I, g) (by omega) ⟨hK, (fun x1 y1 z1 q1 q2 q3 q4 q5 => by unfold zl3 at q5; omega)⟩
  · rintro k ⟨Ia, ga⟩ hk ⟨hKl, hex⟩ ih
    have hKl : zK n kd I0 L0 R0 ga Ia L Rf T G Bf w := hKl
    have hex : zwk 1 (ga 106) k 0 0 := hex
    show ez_P _ _ _ _ _ _ 2 [(3, .int (nI k)), (0, .ref 105), (1, .int 1), (2, .int (nI n0))] [] (n, sl, kd, Ia, L, Rf) _
    refine ez_iload_n (i := 3) dX3_leastThatWins_2 rfl rfl ?_
    refine ez_iload_n (i := 2) dX3_leastThatWins_3 rfl rfl ?_
    refine ez_icmp_gt (tgt := 93) dX3_leastThatWins_4 (by decide) (fun c1 => absurd c1 (Int32.not_lt.mpr (nI_le (by omega) (by omega)))) (fun c1 => ?_)
    refine ez_iconst (v := 0) dX3_leastThatWins_7 (by decide) ?_
    refine ez_istore (l' := [(4, .int 0), (3, .int (nI k)), (0, .ref 105), (1, .int 1), (2, .int (nI n0))]) dX3_leastThatWins_8 (by decide) rfl ?_
    refine ez_eq (l2 := [(4, .int (nI 0)), (3, .int (nI k)), (0, .ref 105), (1, .int 1), (2, .int (nI n0))]) (σ2 := (n, sl, kd, Ia, L, Rf)) rfl rfl rfl rfl ?_
    refine ez_for 1 (fun j (a : (Nat → Nat → Int32) × (Nat → Nat → Int32)) => ([(4, .int (nI j)), (3, .int (nI k)), (0, .ref 105), (1, .int 1), (2, .int (nI n0))], (n, sl, kd, a.1, L, Rf))) (fun j a => zK n kd I0 L0 R0 a.2 a.1 L Rf T G Bf w ∧ zwk 1 (a.2 106) k j 0) ?_ ?_ 1 0 (Ia, ga) (by omega) ⟨hKl, hex⟩
    · rintro j ⟨Ia2, gb⟩ hk2 ⟨hKl2, hex2⟩ ih2
      have hKl2 : zK n kd I0 L0 R0 gb Ia2 L Rf T G Bf w := hKl2
      have hex2 : zwk 1 (gb 106) k j 0 := hex2
      show ez_P _ _ _ _ _ _ 10 [(4, .int (nI j)), (3, .int (nI k)), (0, .ref 105), (1, .int 1), (2, .int (nI n0))] [] (n, sl, kd, Ia2, L, Rf) _
      refine ez_iload (i := 4) dX3_leastThatWins_10 rfl ?_
      refine ez_iload_n (i := 1) dX3_leastThatWins_12 rfl rfl ?_
      refine ez_iconst (v := 1) dX3_leastThatWins_13 (by decide) ?_
      refine ez_icmp_le (tgt := 21) dX3_leastThatWins_14 (by decide) (fun c2 => ?_) (fun c2 => absurd (by decide) c2)
      refine ez_iconst (v := 0) dX3_leastThatWins_21 (by decide) ?_
      refine ez_icmp_gt (tgt := 87) dX3_leastThatWins_22 (by decide) (fun c3 => absurd c3 (Int32.not_lt.mpr (nI_le (b := 0) (by omega) (by decide)))) (fun c3 => ?_)
      refine ez_iconst (v := 0) dX3_leastThatWins_25 (by decide) ?_
      refine ez_istore (l' := [(5, .int 0), (4, .int (nI j)), (3, .int (nI k)), (0, .ref 105), (1, .int 1), (2, .int (nI n0))]) dX3_leastThatWins_26 (by decide) rfl ?_
      refine ez_eq (l2 := [(5, .int (nI 0)), (4, .int (nI j)), (3, .int (nI k)), (0, .ref 105), (1, .int 1), (2, .int (nI n0))]) (σ2 := (n, sl, kd, Ia2, L, Rf)) rfl rfl rfl rfl ?_
      refine ez_for 1 (fun i (a : (Nat → Nat → Int32) × (Nat → Nat → Int32)) => ([(5, .int (nI i)), (4, .int (nI j)), (3, .int (nI k)), (0, .ref 105), (1, .int 1), (2, .int (nI n0))], (n, sl, kd, a.1, L, Rf))) (fun i a => zK n kd I0 L0 R0 a.2 a.1 L Rf T G Bf w ∧ zwk 1 (a.2 106) k j i) ?_ ?_ 1 0 (Ia2, gb) (by omega) ⟨hKl2, hex2⟩
      · rintro i ⟨Ia3, gc⟩ hk3 ⟨hKl3, hex3⟩ ih3
        have hKl3 : zK n kd I0 L0 R0 gc Ia3 L Rf T G Bf w := hKl3
        have hex3 : zwk 1 (gc 106) k j i := hex3
        show ez_P _ _ _ _ _ _ 28 [(5, .int (nI i)), (4, .int (nI j)), (3, .int (nI k)), (0, .ref 105), (1, .int 1), (2, .int (nI n0))] [] (n, sl, kd, Ia3, L, Rf) _
        refine ez_iload (i := 5) dX3_leastThatWins_28 rfl ?_
        refine ez_iload_n (i := 1) dX3_leastThatWins_30 rfl rfl ?_
        refine ez_iconst (v := 2) dX3_leastThatWins_31 (by decide) ?_
        refine ez_icmp_le (tgt := 40) dX3_leastThatWins_32 (by decide) (fun c4 => ?_) (fun c4 => absurd (by decide) c4)
        refine ez_iconst (v := 0) dX3_leastThatWins_40 (by decide) ?_
        refine ez_icmp_gt (tgt := 81) dX3_leastThatWins_41 (by decide) (fun c5 => absurd c5 (Int32.not_lt.mpr (nI_le (b := 0) (by omega) (by decide)))) (fun c5 => ?_)
        refine ez_aload_n (i := 0) dX3_leastThatWins_44 rfl rfl ?_
        refine ez_iload_n (i := 3) dX3_leastThatWins_45 rfl rfl ?_
        refine ez_iload (i := 4) dX3_leastThatWins_46 rfl ?_
        refine ez_iload (i := 5) dX3_leastThatWins_48 rfl ?_
        refine ez_callV (M1 := mX3_leave) (rest := []) dX3_leastThatWins_50 mlX3_19 mvX3_leave rfl (hF.lt (by decide)) (hF.kc (by decide) rfl) (Nat.le_of_ble_eq_true rfl) rfl (k_leave (T := T) (I := Ia3) (L := L) (d + 9) hKl3 hO hH k j i) zpKg_ok ?_
        rintro _ _ ⟨rfl, I6, gl8, rfl, hK7, hl9⟩
        show ez_P _ _ _ _ _ _ 53 [(5, .int (nI i)), (4, .int (nI j)), (3, .int (nI k)), (0, .ref 105), (1, .int 1), (2, .int (nI n0))] [] (n, sl, kd, I6, L, Rf) _
        have hK7 : zK n kd I0 L0 R0 gl8 I6 L Rf T G Bf w := hK7
        have h610 : gl8 106 = gc 106 := hl9.2.2.2 106 (by decide)
        refine ez_aload_n (i := 0) dX3_leastThatWins_53 rfl rfl ?_
        refine ez_iload_n (i := 3) dX3_leastThatWins_54 rfl rfl ?_
        refine ez_if_eq (tgt := 67) dX3_leastThatWins_55 (by decide) (fun c11 => ?_) (fun c11 => ?_)
        · skip
          refine ez_iconst (v := 1) dX3_leastThatWins_67 (by decide) ?_
          refine ez_goto (tgt := 72) dX3_leastThatWins_68 (by decide) ?_
          refine ez_callV (M1 := mX3_setWins) (rest := []) dX3_leastThatWins_72 mlX3_27 mvX3_setWins rfl (hF.lt (by decide)) (hF.kc (by decide) rfl) (Nat.le_of_ble_eq_true rfl) rfl (k_setw_1 (T := T) (I := I6) (L := L) (d + 4) hK7 hO hH (ca := k) (cb := j) (cc := i) (by omega) ⟨hl9.1, hl9.2.1, hl9.2.2.1⟩) zpKg_ok ?_
          rintro _ _ ⟨rfl, I12, gs14, rfl, hK13, hs15⟩
          show ez_P _ _ _ _ _ _ 75 [(5, .int (nI i)), (4, .int (nI j)), (3, .int (nI k)), (0, .ref 105), (1, .int 1), (2, .int (nI n0))] [] (n, sl, kd, I12, L, Rf) _
          have hK13 : zK n kd I0 L0 R0 gs14 I12 L Rf T G Bf w := hK13
          refine ez_iinc (v := (nI (i + 1))) (l' := [(5, .int ((nI (i + 1)))), (4, .int (nI j)), (3, .int (nI k)), (0, .ref 105), (1, .int 1), (2, .int (nI n0))]) dX3_leastThatWins_75 rfl (nI_1 _) (by decide) rfl ?_
          refine ez_goto (tgt := 28) dX3_leastThatWins_78 (by decide) ?_
          have hnew : zwk 1 (gs14 106) k j (i + 1) := by
            intro x1 y1 z1 q1 q2 q3 q4 q5
            rw [hs15.1]
            by_cases e : 64 * x1 + 8 * y1 + z1 = 64 * k + 8 * j + i
            · have e1 : x1 = k ∧ y1 = j ∧ z1 = i := by unfold zl3 at q5; omega
              rw [if_pos e, e]
              have k0 : k = 0 := nI_inj0 c11 (by omega)
              rw [show 64 * k + 8 * j + i = 0 from by omega]; rfl
            · rw [if_neg e, h610]; exact hex3 x1 y1 z1 q1 q2 q3 q4 (by unfold zl3 at q5 ⊢; omega)
          exact ez_eq (l2 := [(5, .int (nI (i + 1))), (4, .int (nI j)), (3, .int (nI k)), (0, .ref 105), (1, .int 1), (2, .int (nI n0))]) rfl rfl rfl rfl (ih3 (I12, gs14) ⟨hK13, hnew⟩)
        · skip
          refine ez_aload_n (i := 0) dX3_leastThatWins_58 rfl rfl ?_
          refine ez_callV (M1 := mX3_winningPiece) (rest := [.ref 105]) dX3_leastThatWins_59 mlX3_23 mvX3_winningPiece rfl (hF.lt (by decide)) (hF.kc (by decide) rfl) (Nat.le_of_ble_eq_true rfl) rfl (k_win (T := T) (I := I6) (L := L) (d + 4) hK7 hO hH (ca := k) (cb := j) (cc := i) (by omega) ⟨hl9.1, hl9.2.1, hl9.2.2.1⟩) eb_rok ?_
          rintro _ _ ⟨rfl, rfl⟩
          rw [h610, zwin_cg (R := 1) (by omega) (by omega) (by omega) (by omega) hex3]
          show ez_P _ _ _ _ _ _ 62 [(5, .int (nI i)), (4, .int (nI j)), (3, .int (nI k)), (0, .ref 105), (1, .int 1), (2, .int (nI n0))] (.int (zcr3 (zwin zwt1 k j i)) :: [.ref 105]) (n, sl, kd, I6, L, Rf) _
          refine ez_bipush (v := (-2)) dX3_leastThatWins_62 (by decide) ?_
          refine ez_icmp_eq (tgt := 71) dX3_leastThatWins_64 (by decide) (fun c16 => ?_) (fun c16 => ?_)
          · skip
            refine ez_iconst (v := 0) dX3_leastThatWins_71 (by decide) ?_
            refine ez_callV (M1 := mX3_setWins) (rest := []) dX3_leastThatWins_72 mlX3_27 mvX3_setWins rfl (hF.lt (by decide)) (hF.kc (by decide) rfl) (Nat.le_of_ble_eq_true rfl) rfl (k_setw_0 (T := T) (I := I6) (L := L) (d + 4) hK7 hO hH (ca := k) (cb := j) (cc := i) (by omega) ⟨hl9.1, hl9.2.1, hl9.2.2.1⟩) zpKg_ok ?_
            rintro _ _ ⟨rfl, I17, gs19, rfl, hK18, hs20⟩
            show ez_P _ _ _ _ _ _ 75 [(5, .int (nI i)), (4, .int (nI j)), (3, .int (nI k)), (0, .ref 105), (1, .int 1), (2, .int (nI n0))] [] (n, sl, kd, I17, L, Rf) _
            have hK18 : zK n kd I0 L0 R0 gs19 I17 L Rf T G Bf w := hK18
            refine ez_iinc (v := (nI (i + 1))) (l' := [(5, .int ((nI (i + 1)))), (4, .int (nI j)), (3, .int (nI k)), (0, .ref 105), (1, .int 1), (2, .int (nI n0))]) dX3_leastThatWins_75 rfl (nI_1 _) (by decide) rfl ?_
            refine ez_goto (tgt := 28) dX3_leastThatWins_78 (by decide) ?_
            have hnew : zwk 1 (gs19 106) k j (i + 1) := by
              intro x1 y1 z1 q1 q2 q3 q4 q5
              rw [hs20.1]
              by_cases e : 64 * x1 + 8 * y1 + z1 = 64 * k + 8 * j + i
              · have e1 : x1 = k ∧ y1 = j ∧ z1 = i := by unfold zl3 at q5; omega
                rw [if_pos e, e]
                have hz := zwin_k (x := k) (y := j) (z := i) (by omega) (by omega) (by omega)
                exact (((hz.2.1 ((zcr_m2 (fun t ht => zwin_lt ht (by omega))).mp c16)).resolve_left (fun e => c11 (by rw [e]; rfl))).symm)
              · rw [if_neg e, h610]; exact hex3 x1 y1 z1 q1 q2 q3 q4 (by unfold zl3 at q5 ⊢; omega)
            exact ez_eq (l2 := [(5, .int (nI (i + 1))), (4, .int (nI j)), (3, .int (nI k)), (0, .ref 105), (1, .int 1), (2, .int (nI n0))]) rfl rfl rfl rfl (ih3 (I17, gs19) ⟨hK18, hnew⟩)
          · skip
            refine ez_iconst (v := 1) dX3_leastThatWins_67 (by decide) ?_
            refine ez_goto (tgt := 72) dX3_leastThatWins_68 (by decide) ?_
            refine ez_callV (M1 := mX3_setWins) (rest := []) dX3_leastThatWins_72 mlX3_27 mvX3_setWins rfl (hF.lt (by decide)) (hF.kc (by decide) rfl) (Nat.le_of_ble_eq_true rfl) rfl (k_setw_1 (T := T) (I := I6) (L := L) (d + 4) hK7 hO hH (ca := k) (cb := j) (cc := i) (by omega) ⟨hl9.1, hl9.2.1, hl9.2.2.1⟩) zpKg_ok ?_
            rintro _ _ ⟨rfl, I21, gs23, rfl, hK22, hs24⟩
            show ez_P _ _ _ _ _ _ 75 [(5, .int (nI i)), (4, .int (nI j)), (3, .int (nI k)), (0, .ref 105), (1, .int 1), (2, .int (nI n0))] [] (n, sl, kd, I21, L, Rf) _
            have hK22 : zK n kd I0 L0 R0 gs23 I21 L Rf T G Bf w := hK22
            refine ez_iinc (v := (nI (i + 1))) (l' := [(5, .int ((nI (i + 1)))), (4, .int (nI j)), (3, .int (nI k)), (0, .ref 105), (1, .int 1), (2, .int (nI n0))]) dX3_leastThatWins_75 rfl (nI_1 _) (by decide) rfl ?_
            refine ez_goto (tgt := 28) dX3_leastThatWins_78 (by decide) ?_
            have hnew : zwk 1 (gs23 106) k j (i + 1) := by
              intro x1 y1 z1 q1 q2 q3 q4 q5
              rw [hs24.1]
              by_cases e : 64 * x1 + 8 * y1 + z1 = 64 * k + 8 * j + i
              · have e1 : x1 = k ∧ y1 = j ∧ z1 = i := by unfold zl3 at q5; omega
                rw [if_pos e, e]
                have hz := zwin_k (x := k) (y := j) (z := i) (by omega) (by omega) (by omega)
                exact (hz.2.2 (fun g => c16 ((zcr_m2 (fun t ht => zwin_lt ht (by omega))).mpr g))).symm
              · rw [if_neg e, h610]; exact hex3 x1 y1 z1 q1 q2 q3 q4 (by unfold zl3 at q5 ⊢; omega)
            exact ez_eq (l2 := [(5, .int (nI (i + 1))), (4, .int (nI j)), (3, .int (nI k)), (0, .ref 105), (1, .int 1), (2, .int (nI n0))]) rfl rfl rfl rfl (ih3 (I21, gs23) ⟨hK22, hnew⟩)
      · rintro ⟨Ia3, gc⟩ ⟨hKl3, hex3⟩
        have hKl3 : zK n kd I0 L0 R0 gc Ia3 L Rf T G Bf w := hKl3
        have hex3 : zwk 1 (gc 106) k j 1 := hex3
        show ez_P _ _ _ _ _ _ 28 [(5, .int (nI 1)), (4, .int (nI j)), (3, .int (nI k)), (0, .ref 105), (1, .int 1), (2, .int (nI n0))] [] (n, sl, kd, Ia3, L, Rf) _
        refine ez_iload (i := 5) dX3_leastThatWins_28 rfl ?_
        refine ez_iload_n (i := 1) dX3_leastThatWins_30 rfl rfl ?_
        refine ez_iconst (v := 2) dX3_leastThatWins_31 (by decide) ?_
        refine ez_icmp_le (tgt := 40) dX3_leastThatWins_32 (by decide) (fun c25 => ?_) (fun c25 => absurd (by decide) c25)
        refine ez_iconst (v := 0) dX3_leastThatWins_40 (by decide) ?_
        refine ez_icmp_gt (tgt := 81) dX3_leastThatWins_41 (by decide) (fun c26 => ?_) (fun c26 => absurd (by decide) c26)
        refine ez_iinc (v := (nI (j + 1))) (l' := [(4, .int ((nI (j + 1)))), (5, .int (nI 1)), (3, .int (nI k)), (0, .ref 105), (1, .int 1), (2, .int (nI n0))]) dX3_leastThatWins_81 rfl (nI_1 _) (by decide) rfl ?_
        refine ez_goto (tgt := 10) dX3_leastThatWins_84 (by decide) ?_
        refine ez_sub (l' := [(4, .int ((nI (j + 1)))), (3, .int (nI k)), (0, .ref 105), (1, .int 1), (2, .int (nI n0))]) [0, 2, 3, 4, 5] rfl ?_
        exact ez_eq (l2 := [(4, .int (nI (j + 1))), (3, .int (nI k)), (0, .ref 105), (1, .int 1), (2, .int (nI n0))]) rfl rfl rfl rfl (ih2 (Ia3, gc) ⟨hKl3, (fun x1 y1 z1 q1 q2 q3 q4 q5 => hex3 x1 y1 z1 q1 q2 q3 q4 (by unfold zl3 at q5 ⊢; omega))⟩)
    · rintro ⟨Ia2, gb⟩ ⟨hKl2, hex2⟩
      have hKl2 : zK n kd I0 L0 R0 gb Ia2 L Rf T G Bf w := hKl2
      have hex2 : zwk 1 (gb 106) k 1 0 := hex2
      show ez_P _ _ _ _ _ _ 10 [(4, .int (nI 1)), (3, .int (nI k)), (0, .ref 105), (1, .int 1), (2, .int (nI n0))] [] (n, sl, kd, Ia2, L, Rf) _
      refine ez_iload (i := 4) dX3_leastThatWins_10 rfl ?_
      refine ez_iload_n (i := 1) dX3_leastThatWins_12 rfl rfl ?_
      refine ez_iconst (v := 1) dX3_leastThatWins_13 (by decide) ?_
      refine ez_icmp_le (tgt := 21) dX3_leastThatWins_14 (by decide) (fun c27 => ?_) (fun c27 => absurd (by decide) c27)
      refine ez_iconst (v := 0) dX3_leastThatWins_21 (by decide) ?_
      refine ez_icmp_gt (tgt := 87) dX3_leastThatWins_22 (by decide) (fun c28 => ?_) (fun c28 => absurd (by decide) c28)
      refine ez_iinc (v := (nI (k + 1))) (l' := [(3, .int ((nI (k + 1)))), (4, .int (nI 1)), (0, .ref 105), (1, .int 1), (2, .int (nI n0))]) dX3_leastThatWins_87 rfl (nI_1 _) (by decide) rfl ?_
      refine ez_goto (tgt := 2) dX3_leastThatWins_90 (by decide) ?_
      refine ez_sub (l' := [(3, .int ((nI (k + 1)))), (0, .ref 105), (1, .int 1), (2, .int (nI n0))]) [0, 2, 3, 4] rfl ?_
      exact ez_eq (l2 := [(3, .int (nI (k + 1))), (0, .ref 105), (1, .int 1), (2, .int (nI n0))]) rfl rfl rfl rfl (ih (Ia2, gb) ⟨hKl2, (fun x1 y1 z1 q1 q2 q3 q4 q5 => hex2 x1 y1 z1 q1 q2 q3 q4 (by unfold zl3 at q5 ⊢; omega))⟩)
  · rintro ⟨Ia, ga⟩ ⟨hKl, hex⟩
    have hKl : zK n kd I0 L0 R0 ga Ia L Rf T G Bf w := hKl
    have hex : zwk 1 (ga 106) (n0 + 1) 0 0 := hex
    show ez_P _ _ _ _ _ _ 2 [(3, .int (nI (n0 + 1))), (0, .ref 105), (1, .int 1), (2, .int (nI n0))] [] (n, sl, kd, Ia, L, Rf) _
    refine ez_iload_n (i := 3) dX3_leastThatWins_2 rfl rfl ?_
    refine ez_iload_n (i := 2) dX3_leastThatWins_3 rfl rfl ?_
    refine ez_icmp_gt (tgt := 93) dX3_leastThatWins_4 (by decide) (fun c29 => ?_) (fun c29 => absurd (nI_lt (by omega) (by omega)) c29)
    refine ez_aload_n (i := 0) dX3_leastThatWins_93 rfl rfl ?_
    refine ez_iload_n (i := 2) dX3_leastThatWins_94 rfl rfl ?_
    refine ez_iload_n (i := 1) dX3_leastThatWins_95 rfl rfl ?_
    refine ez_iconst (v := 1) dX3_leastThatWins_96 (by decide) ?_
    refine ez_icmp_le (tgt := 104) dX3_leastThatWins_97 (by decide) (fun c30 => ?_) (fun c30 => absurd (by decide) c30)
    refine ez_iconst (v := 0) dX3_leastThatWins_104 (by decide) ?_
    refine ez_iload_n (i := 1) dX3_leastThatWins_105 rfl rfl ?_
    refine ez_iconst (v := 2) dX3_leastThatWins_106 (by decide) ?_
    refine ez_icmp_le (tgt := 114) dX3_leastThatWins_107 (by decide) (fun c31 => ?_) (fun c31 => absurd (by decide) c31)
    refine ez_iconst (v := 0) dX3_leastThatWins_114 (by decide) ?_
    refine ez_callV (M1 := mX3_leave) (rest := []) dX3_leastThatWins_115 mlX3_19 mvX3_leave rfl (hF.lt (by decide)) (hF.kc (by decide) rfl) (Nat.le_of_ble_eq_true rfl) rfl (k_leave (T := T) (I := Ia) (L := L) (d + 9) hKl hO hH n0 0 0) zpKg_ok ?_
    rintro _ _ ⟨rfl, I32, gl34, rfl, hK33, hl35⟩
    show ez_P _ _ _ _ _ _ 118 [(3, .int (nI (n0 + 1))), (0, .ref 105), (1, .int 1), (2, .int (nI n0))] [] (n, sl, kd, I32, L, Rf) _
    have hK33 : zK n kd I0 L0 R0 gl34 I32 L Rf T G Bf w := hK33
    have h636 : gl34 106 = ga 106 := hl35.2.2.2 106 (by decide)
    refine ez_aload_n (i := 0) dX3_leastThatWins_118 rfl rfl ?_
    refine ez_callV (M1 := mX3_winningPiece) (rest := []) dX3_leastThatWins_119 mlX3_23 mvX3_winningPiece rfl (hF.lt (by decide)) (hF.kc (by decide) rfl) (Nat.le_of_ble_eq_true rfl) rfl (k_win (T := T) (I := I32) (L := L) (d + 4) hK33 hO hH (ca := n0) (cb := 0) (cc := 0) (by omega) ⟨hl35.1, hl35.2.1, hl35.2.2.1⟩) eb_rok ?_
    rintro _ _ ⟨rfl, rfl⟩
    rw [h636, zwin_cg (R := 1) (by omega) (by omega) (by omega) (by omega) (fun x1 y1 z1 q1 q2 q3 q4 q5 => hex x1 y1 z1 q1 q2 q3 q4 (Or.inl (by unfold zl3 at q5; omega)))]
    show ez_P _ _ _ _ _ _ 122 [(3, .int (nI (n0 + 1))), (0, .ref 105), (1, .int 1), (2, .int (nI n0))] (.int (zcr3 (zwin zwt1 n0 0 0)) :: []) (n, sl, kd, I32, L, Rf) _
    refine ez_iret dX3_leastThatWins_122 rfl rfl ?_
    rw [show zck 1 n0 = zcr3 (zwin zwt1 n0 0 0) from by unfold zck; rw [if_pos (by decide), if_pos (by decide), ← (zwin_k (by omega) (by omega) (by omega)).1]]
    exact ⟨rfl, _, _, rfl, hK33, trivial⟩
theorem c_cake_1 {n : Nat} {sl : Nat × Nat} {kd : Nat → Nat × Nat} {I : Nat → Nat → Int32} {L : Nat → Nat → Int64} {Rf : Nat → Nat → Option Nat} (d : Nat) {T : zT} {H : Nat} (hC : zC n kd I L Rf T) (hO : zOk H T) (hH : H ≤ 1000000000) {n0 : Nat} (hn1 : 1 ≤ n0) (hn : n0 ≤ 7) : zq mX10_cake (d + 60) [.ref 0, .int 1, .int (nI n0)] (n, sl, kd, I, L, Rf) (zpC n sl kd I L Rf (some (.int (s_cake T 1 (nI n0)).1)) (s_cake T 1 (nI n0)).2) := by
  have hF := hC.F; have hc7 := hO.c
  have hK0 : zK n kd I L Rf I I L Rf T none none false := zK.start hC
  have hsp : s_cake T 1 (nI n0) = (zck 1 n0, T) := (by unfold s_cake; rw [if_pos ⟨by decide, z_n19 (N := 7) hn1 hn (by decide)⟩, nI_clamp (by omega), show (1 : Int32).toNatClampNeg = 1 from by decide])
  rw [hsp]
  intro f B
  refine ez_meth pn_X.2.2.2.2.2.2.2.2.2.2.1 (Nat.le_of_ble_eq_true rfl) ?_
  show ez_P _ _ _ _ _ _ 0 [(0, .ref 0), (1, .int 1), (2, .int (nI n0))] [] (n, sl, kd, I, L, Rf) _
  refine ez_iload_n (i := 1) dX10_cake_0 rfl rfl ?_
  refine ez_iconst (v := 1) dX10_cake_1 (by decide) ?_
  refine ez_iconst (v := 3) dX10_cake_2 (by decide) ?_
  refine ez_callS (M1 := mX10_within) (rest := []) dX10_cake_3 mlX10_158 msX10_within rfl (Nat.le_of_ble_eq_true rfl) rfl (zq_b1 (by decide) (zq_b (q_X10_within (d + 59) 1 1 3) (n, sl, kd, I, L, Rf))) eb_rok ?_
  rintro _ _ ⟨rfl, rfl⟩
  show ez_P _ _ _ _ _ _ 6 [(0, .ref 0), (1, .int 1), (2, .int (nI n0))] (.int 1 :: []) _ _
  refine ez_if_eq (tgt := 19) dX10_cake_6 (by decide) (fun c1 => absurd c1 (by decide)) (fun c1 => ?_)
  refine ez_iload_n (i := 2) dX10_cake_9 rfl rfl ?_
  refine ez_iconst (v := 1) dX10_cake_10 (by decide) ?_
  refine ez_bipush (v := 7) dX10_cake_11 (by decide) ?_
  refine ez_callS (M1 := mX10_within) (rest := []) dX10_cake_13 mlX10_158 msX10_within rfl (Nat.le_of_ble_eq_true rfl) rfl (zq_b1 (z_n19 (N := 7) hn1 hn (by decide)) (zq_b (q_X10_within (d + 59) (nI n0) 1 7) (n, sl, kd, I, L, Rf))) eb_rok ?_
  rintro _ _ ⟨rfl, rfl⟩
  show ez_P _ _ _ _ _ _ 16 [(0, .ref 0), (1, .int 1), (2, .int (nI n0))] (.int 1 :: []) _ _
  refine ez_if_ne (tgt := 21) dX10_cake_16 (by decide) (fun c2 => ?_) (fun c2 => absurd (by decide) c2)
  refine ez_aload_n (i := 0) dX10_cake_21 rfl rfl ?_
  refine ez_getR dX10_cake_22 flX10_87 (hF.lt (by decide)) (hF.kc (by decide) rfl) (hF.pt 100 rfl) ?_
  refine ez_iload_n (i := 1) dX10_cake_25 rfl rfl ?_
  refine ez_iload_n (i := 2) dX10_cake_26 rfl rfl ?_
  refine ez_callV (M1 := mX3_leastThatWins) (rest := []) dX10_cake_27 mlX10_397 mvX3_leastThatWins rfl (hF.lt (by decide)) (hF.kc (by decide) rfl) (Nat.le_of_ble_eq_true rfl) rfl (k_ltw_1 (T := T) (I := I) (L := L) (d + 29) hK0 hO hH hn1 hn) zpKg_ok ?_
  rintro _ _ ⟨rfl, I3, gz, rfl, hK4, _⟩
  show ez_P _ _ _ _ _ _ 30 [(0, .ref 0), (1, .int 1), (2, .int (nI n0))] (.int (zck 1 n0) :: []) (n, sl, kd, I3, L, Rf) _
  have hK4 : zK n kd I L Rf gz I3 L Rf T none none false := hK4
  refine ez_iret dX10_cake_30 rfl rfl ?_
  exact hK4.end
theorem k_ltw_2 {n : Nat} {sl : Nat × Nat} {kd : Nat → Nat × Nat} {I : Nat → Nat → Int32} {L : Nat → Nat → Int64} {Rf : Nat → Nat → Option Nat} (d : Nat) {T : zT} {H : Nat} {I0 g : Nat → Nat → Int32} {L0 : Nat → Nat → Int64} {R0 : Nat → Nat → Option Nat} {G Bf : Option (Nat → Int32)} {w : Bool} (hK : zK n kd I0 L0 R0 g I L Rf T G Bf w) (hO : zOk H T) (hH : H ≤ 1000000000) {n0 : Nat} (hn1 : 1 ≤ n0) (hn : n0 ≤ 7) : zq mX3_leastThatWins (d + 30) [.ref 105, .int 2, .int (nI n0)] (n, sl, kd, I, L, Rf) (zpKg n sl kd I0 L0 R0 L Rf T G Bf w (some (.int (zck 2 n0))) (fun _ => True)) := by
  have hC := hK.C; have hF := hC.F; have hc7 := hO.c
  intro f B
  refine ez_meth pn_X.2.2.2.1 (Nat.le_of_ble_eq_true rfl) ?_
  show ez_P _ _ _ _ _ _ 0 [(0, .ref 105), (1, .int 2), (2, .int (nI n0))] [] (n, sl, kd, I, L, Rf) _
  refine ez_iconst (v := 0) dX3_leastThatWins_0 (by decide) ?_
  refine ez_istore_n (l' := [(3, .int 0), (0, .ref 105), (1, .int 2), (2, .int (nI n0))]) dX3_leastThatWins_1 rfl (by decide) rfl ?_
  refine ez_eq (l2 := [(3, .int (nI 0)), (0, .ref 105), (1, .int 2), (2, .int (nI n0))]) (σ2 := (n, sl, kd, I, L, Rf)) rfl rfl rfl rfl ?_
  refine ez_for (n0 + 1) (fun k (a : (Nat → Nat → Int32) × (Nat → Nat → Int32)) => ([(3, .int (nI k)), (0, .ref 105), (1, .int 2), (2, .int (nI n0))], (n, sl, kd, a.1, L, Rf))) (fun k a => zK n kd I0 L0 R0 a.2 a.1 L Rf T G Bf w ∧ zwk 2 (a.2 106) k 0 0) ?_ ?_ (n0 + 1) 0 (I, g) (by omega) ⟨hK, (fun x1 y1 z1 q1 q2 q3 q4 q5 => by unfold zl3 at q5; omega)⟩
  · rintro k ⟨Ia, ga⟩ hk ⟨hKl, hex⟩ ih
    have hKl : zK n kd I0 L0 R0 ga Ia L Rf T G Bf w := hKl
    have hex : zwk 2 (ga 106) k 0 0 := hex
    show ez_P _ _ _ _ _ _ 2 [(3, .int (nI k)), (0, .ref 105), (1, .int 2), (2, .int (nI n0))] [] (n, sl, kd, Ia, L, Rf) _
    refine ez_iload_n (i := 3) dX3_leastThatWins_2 rfl rfl ?_
    refine ez_iload_n (i := 2) dX3_leastThatWins_3 rfl rfl ?_
    refine ez_icmp_gt (tgt := 93) dX3_leastThatWins_4 (by decide) (fun c1 => absurd c1 (Int32.not_lt.mpr (nI_le (by omega) (by omega)))) (fun c1 => ?_)
    refine ez_iconst (v := 0) dX3_leastThatWins_7 (by decide) ?_
    refine ez_istore (l' := [(4, .int 0), (3, .int (nI k)), (0, .ref 105), (1, .int 2), (2, .int (nI n0))]) dX3_leastThatWins_8 (by decide) rfl ?_
    refine ez_eq (l2 := [(4, .int (nI 0)), (3, .int (nI k)), (0, .ref 105), (1, .int 2), (2, .int (nI n0))]) (σ2 := (n, sl, kd, Ia, L, Rf)) rfl rfl rfl rfl ?_
    refine ez_for (k + 1) (fun j (a : (Nat → Nat → Int32) × (Nat → Nat → Int32)) => ([(4, .int (nI j)), (3, .int (nI k)), (0, .ref 105), (1, .int 2), (2, .int (nI n0))], (n, sl, kd, a.1, L, Rf))) (fun j a => zK n kd I0 L0 R0 a.2 a.1 L Rf T G Bf w ∧ zwk 2 (a.2 106) k j 0) ?_ ?_ (k + 1) 0 (Ia, ga) (by omega) ⟨hKl, hex⟩
    · rintro j ⟨Ia2, gb⟩ hk2 ⟨hKl2, hex2⟩ ih2
      have hKl2 : zK n kd I0 L0 R0 gb Ia2 L Rf T G Bf w := hKl2
      have hex2 : zwk 2 (gb 106) k j 0 := hex2
      show ez_P _ _ _ _ _ _ 10 [(4, .int (nI j)), (3, .int (nI k)), (0, .ref 105), (1, .int 2), (2, .int (nI n0))] [] (n, sl, kd, Ia2, L, Rf) _
      refine ez_iload (i := 4) dX3_leastThatWins_10 rfl ?_
      refine ez_iload_n (i := 1) dX3_leastThatWins_12 rfl rfl ?_
      refine ez_iconst (v := 1) dX3_leastThatWins_13 (by decide) ?_
      refine ez_icmp_le (tgt := 21) dX3_leastThatWins_14 (by decide) (fun c2 => absurd c2 (by decide)) (fun c2 => ?_)
      refine ez_iload_n (i := 3) dX3_leastThatWins_17 rfl rfl ?_
      refine ez_goto (tgt := 22) dX3_leastThatWins_18 (by decide) ?_
      refine ez_icmp_gt (tgt := 87) dX3_leastThatWins_22 (by decide) (fun c3 => absurd c3 (Int32.not_lt.mpr (nI_le (by omega) (by omega)))) (fun c3 => ?_)
      refine ez_iconst (v := 0) dX3_leastThatWins_25 (by decide) ?_
      refine ez_istore (l' := [(5, .int 0), (4, .int (nI j)), (3, .int (nI k)), (0, .ref 105), (1, .int 2), (2, .int (nI n0))]) dX3_leastThatWins_26 (by decide) rfl ?_
      refine ez_eq (l2 := [(5, .int (nI 0)), (4, .int (nI j)), (3, .int (nI k)), (0, .ref 105), (1, .int 2), (2, .int (nI n0))]) (σ2 := (n, sl, kd, Ia2, L, Rf)) rfl rfl rfl rfl ?_
      refine ez_for 1 (fun i (a : (Nat → Nat → Int32) × (Nat → Nat → Int32)) => ([(5, .int (nI i)), (4, .int (nI j)), (3, .int (nI k)), (0, .ref 105), (1, .int 2), (2, .int (nI n0))], (n, sl, kd, a.1, L, Rf))) (fun i a => zK n kd I0 L0 R0 a.2 a.1 L Rf T G Bf w ∧ zwk 2 (a.2 106) k j i) ?_ ?_ 1 0 (Ia2, gb) (by omega) ⟨hKl2, hex2⟩
      · rintro i ⟨Ia3, gc⟩ hk3 ⟨hKl3, hex3⟩ ih3
        have hKl3 : zK n kd I0 L0 R0 gc Ia3 L Rf T G Bf w := hKl3
        have hex3 : zwk 2 (gc 106) k j i := hex3
        show ez_P _ _ _ _ _ _ 28 [(5, .int (nI i)), (4, .int (nI j)), (3, .int (nI k)), (0, .ref 105), (1, .int 2), (2, .int (nI n0))] [] (n, sl, kd, Ia3, L, Rf) _
        refine ez_iload (i := 5) dX3_leastThatWins_28 rfl ?_
        refine ez_iload_n (i := 1) dX3_leastThatWins_30 rfl rfl ?_
        refine ez_iconst (v := 2) dX3_leastThatWins_31 (by decide) ?_
        refine ez_icmp_le (tgt := 40) dX3_leastThatWins_32 (by decide) (fun c4 => ?_) (fun c4 => absurd (by decide) c4)
        refine ez_iconst (v := 0) dX3_leastThatWins_40 (by decide) ?_
        refine ez_icmp_gt (tgt := 81) dX3_leastThatWins_41 (by decide) (fun c5 => absurd c5 (Int32.not_lt.mpr (nI_le (b := 0) (by omega) (by decide)))) (fun c5 => ?_)
        refine ez_aload_n (i := 0) dX3_leastThatWins_44 rfl rfl ?_
        refine ez_iload_n (i := 3) dX3_leastThatWins_45 rfl rfl ?_
        refine ez_iload (i := 4) dX3_leastThatWins_46 rfl ?_
        refine ez_iload (i := 5) dX3_leastThatWins_48 rfl ?_
        refine ez_callV (M1 := mX3_leave) (rest := []) dX3_leastThatWins_50 mlX3_19 mvX3_leave rfl (hF.lt (by decide)) (hF.kc (by decide) rfl) (Nat.le_of_ble_eq_true rfl) rfl (k_leave (T := T) (I := Ia3) (L := L) (d + 9) hKl3 hO hH k j i) zpKg_ok ?_
        rintro _ _ ⟨rfl, I6, gl8, rfl, hK7, hl9⟩
        show ez_P _ _ _ _ _ _ 53 [(5, .int (nI i)), (4, .int (nI j)), (3, .int (nI k)), (0, .ref 105), (1, .int 2), (2, .int (nI n0))] [] (n, sl, kd, I6, L, Rf) _
        have hK7 : zK n kd I0 L0 R0 gl8 I6 L Rf T G Bf w := hK7
        have h610 : gl8 106 = gc 106 := hl9.2.2.2 106 (by decide)
        refine ez_aload_n (i := 0) dX3_leastThatWins_53 rfl rfl ?_
        refine ez_iload_n (i := 3) dX3_leastThatWins_54 rfl rfl ?_
        refine ez_if_eq (tgt := 67) dX3_leastThatWins_55 (by decide) (fun c11 => ?_) (fun c11 => ?_)
        · skip
          refine ez_iconst (v := 1) dX3_leastThatWins_67 (by decide) ?_
          refine ez_goto (tgt := 72) dX3_leastThatWins_68 (by decide) ?_
          refine ez_callV (M1 := mX3_setWins) (rest := []) dX3_leastThatWins_72 mlX3_27 mvX3_setWins rfl (hF.lt (by decide)) (hF.kc (by decide) rfl) (Nat.le_of_ble_eq_true rfl) rfl (k_setw_1 (T := T) (I := I6) (L := L) (d + 4) hK7 hO hH (ca := k) (cb := j) (cc := i) (by omega) ⟨hl9.1, hl9.2.1, hl9.2.2.1⟩) zpKg_ok ?_
          rintro _ _ ⟨rfl, I12, gs14, rfl, hK13, hs15⟩
          show ez_P _ _ _ _ _ _ 75 [(5, .int (nI i)), (4, .int (nI j)), (3, .int (nI k)), (0, .ref 105), (1, .int 2), (2, .int (nI n0))] [] (n, sl, kd, I12, L, Rf) _
          have hK13 : zK n kd I0 L0 R0 gs14 I12 L Rf T G Bf w := hK13
          refine ez_iinc (v := (nI (i + 1))) (l' := [(5, .int ((nI (i + 1)))), (4, .int (nI j)), (3, .int (nI k)), (0, .ref 105), (1, .int 2), (2, .int (nI n0))]) dX3_leastThatWins_75 rfl (nI_1 _) (by decide) rfl ?_
          refine ez_goto (tgt := 28) dX3_leastThatWins_78 (by decide) ?_
          have hnew : zwk 2 (gs14 106) k j (i + 1) := by
            intro x1 y1 z1 q1 q2 q3 q4 q5
            rw [hs15.1]
            by_cases e : 64 * x1 + 8 * y1 + z1 = 64 * k + 8 * j + i
            · have e1 : x1 = k ∧ y1 = j ∧ z1 = i := by unfold zl3 at q5; omega
              rw [if_pos e, e]
              have k0 : k = 0 := nI_inj0 c11 (by omega)
              rw [show 64 * k + 8 * j + i = 0 from by omega]; rfl
            · rw [if_neg e, h610]; exact hex3 x1 y1 z1 q1 q2 q3 q4 (by unfold zl3 at q5 ⊢; omega)
          exact ez_eq (l2 := [(5, .int (nI (i + 1))), (4, .int (nI j)), (3, .int (nI k)), (0, .ref 105), (1, .int 2), (2, .int (nI n0))]) rfl rfl rfl rfl (ih3 (I12, gs14) ⟨hK13, hnew⟩)
        · skip
          refine ez_aload_n (i := 0) dX3_leastThatWins_58 rfl rfl ?_
          refine ez_callV (M1 := mX3_winningPiece) (rest := [.ref 105]) dX3_leastThatWins_59 mlX3_23 mvX3_winningPiece rfl (hF.lt (by decide)) (hF.kc (by decide) rfl) (Nat.le_of_ble_eq_true rfl) rfl (k_win (T := T) (I := I6) (L := L) (d + 4) hK7 hO hH (ca := k) (cb := j) (cc := i) (by omega) ⟨hl9.1, hl9.2.1, hl9.2.2.1⟩) eb_rok ?_
          rintro _ _ ⟨rfl, rfl⟩
          rw [h610, zwin_cg (R := 2) (by omega) (by omega) (by omega) (by omega) hex3]
          show ez_P _ _ _ _ _ _ 62 [(5, .int (nI i)), (4, .int (nI j)), (3, .int (nI k)), (0, .ref 105), (1, .int 2), (2, .int (nI n0))] (.int (zcr3 (zwin zwt1 k j i)) :: [.ref 105]) (n, sl, kd, I6, L, Rf) _
          refine ez_bipush (v := (-2)) dX3_leastThatWins_62 (by decide) ?_
          refine ez_icmp_eq (tgt := 71) dX3_leastThatWins_64 (by decide) (fun c16 => ?_) (fun c16 => ?_)
          · skip
            refine ez_iconst (v := 0) dX3_leastThatWins_71 (by decide) ?_
            refine ez_callV (M1 := mX3_setWins) (rest := []) dX3_leastThatWins_72 mlX3_27 mvX3_setWins rfl (hF.lt (by decide)) (hF.kc (by decide) rfl) (Nat.le_of_ble_eq_true rfl) rfl (k_setw_0 (T := T) (I := I6) (L := L) (d + 4) hK7 hO hH (ca := k) (cb := j) (cc := i) (by omega) ⟨hl9.1, hl9.2.1, hl9.2.2.1⟩) zpKg_ok ?_
            rintro _ _ ⟨rfl, I17, gs19, rfl, hK18, hs20⟩
            show ez_P _ _ _ _ _ _ 75 [(5, .int (nI i)), (4, .int (nI j)), (3, .int (nI k)), (0, .ref 105), (1, .int 2), (2, .int (nI n0))] [] (n, sl, kd, I17, L, Rf) _
            have hK18 : zK n kd I0 L0 R0 gs19 I17 L Rf T G Bf w := hK18
            refine ez_iinc (v := (nI (i + 1))) (l' := [(5, .int ((nI (i + 1)))), (4, .int (nI j)), (3, .int (nI k)), (0, .ref 105), (1, .int 2), (2, .int (nI n0))]) dX3_leastThatWins_75 rfl (nI_1 _) (by decide) rfl ?_
            refine ez_goto (tgt := 28) dX3_leastThatWins_78 (by decide) ?_
            have hnew : zwk 2 (gs19 106) k j (i + 1) := by
              intro x1 y1 z1 q1 q2 q3 q4 q5
              rw [hs20.1]
              by_cases e : 64 * x1 + 8 * y1 + z1 = 64 * k + 8 * j + i
              · have e1 : x1 = k ∧ y1 = j ∧ z1 = i := by unfold zl3 at q5; omega
                rw [if_pos e, e]
                have hz := zwin_k (x := k) (y := j) (z := i) (by omega) (by omega) (by omega)
                exact (((hz.2.1 ((zcr_m2 (fun t ht => zwin_lt ht (by omega))).mp c16)).resolve_left (fun e => c11 (by rw [e]; rfl))).symm)
              · rw [if_neg e, h610]; exact hex3 x1 y1 z1 q1 q2 q3 q4 (by unfold zl3 at q5 ⊢; omega)
            exact ez_eq (l2 := [(5, .int (nI (i + 1))), (4, .int (nI j)), (3, .int (nI k)), (0, .ref 105), (1, .int 2), (2, .int (nI n0))]) rfl rfl rfl rfl (ih3 (I17, gs19) ⟨hK18, hnew⟩)
          · skip
            refine ez_iconst (v := 1) dX3_leastThatWins_67 (by decide) ?_
            refine ez_goto (tgt := 72) dX3_leastThatWins_68 (by decide) ?_
            refine ez_callV (M1 := mX3_setWins) (rest := []) dX3_leastThatWins_72 mlX3_27 mvX3_setWins rfl (hF.lt (by decide)) (hF.kc (by decide) rfl) (Nat.le_of_ble_eq_true rfl) rfl (k_setw_1 (T := T) (I := I6) (L := L) (d + 4) hK7 hO hH (ca := k) (cb := j) (cc := i) (by omega) ⟨hl9.1, hl9.2.1, hl9.2.2.1⟩) zpKg_ok ?_
            rintro _ _ ⟨rfl, I21, gs23, rfl, hK22, hs24⟩
            show ez_P _ _ _ _ _ _ 75 [(5, .int (nI i)), (4, .int (nI j)), (3, .int (nI k)), (0, .ref 105), (1, .int 2), (2, .int (nI n0))] [] (n, sl, kd, I21, L, Rf) _
            have hK22 : zK n kd I0 L0 R0 gs23 I21 L Rf T G Bf w := hK22
            refine ez_iinc (v := (nI (i + 1))) (l' := [(5, .int ((nI (i + 1)))), (4, .int (nI j)), (3, .int (nI k)), (0, .ref 105), (1, .int 2), (2, .int (nI n0))]) dX3_leastThatWins_75 rfl (nI_1 _) (by decide) rfl ?_
            refine ez_goto (tgt := 28) dX3_leastThatWins_78 (by decide) ?_
            have hnew : zwk 2 (gs23 106) k j (i + 1) := by
              intro x1 y1 z1 q1 q2 q3 q4 q5
              rw [hs24.1]
              by_cases e : 64 * x1 + 8 * y1 + z1 = 64 * k + 8 * j + i
              · have e1 : x1 = k ∧ y1 = j ∧ z1 = i := by unfold zl3 at q5; omega
                rw [if_pos e, e]
                have hz := zwin_k (x := k) (y := j) (z := i) (by omega) (by omega) (by omega)
                exact (hz.2.2 (fun g => c16 ((zcr_m2 (fun t ht => zwin_lt ht (by omega))).mpr g))).symm
              · rw [if_neg e, h610]; exact hex3 x1 y1 z1 q1 q2 q3 q4 (by unfold zl3 at q5 ⊢; omega)
            exact ez_eq (l2 := [(5, .int (nI (i + 1))), (4, .int (nI j)), (3, .int (nI k)), (0, .ref 105), (1, .int 2), (2, .int (nI n0))]) rfl rfl rfl rfl (ih3 (I21, gs23) ⟨hK22, hnew⟩)
      · rintro ⟨Ia3, gc⟩ ⟨hKl3, hex3⟩
        have hKl3 : zK n kd I0 L0 R0 gc Ia3 L Rf T G Bf w := hKl3
        have hex3 : zwk 2 (gc 106) k j 1 := hex3
        show ez_P _ _ _ _ _ _ 28 [(5, .int (nI 1)), (4, .int (nI j)), (3, .int (nI k)), (0, .ref 105), (1, .int 2), (2, .int (nI n0))] [] (n, sl, kd, Ia3, L, Rf) _
        refine ez_iload (i := 5) dX3_leastThatWins_28 rfl ?_
        refine ez_iload_n (i := 1) dX3_leastThatWins_30 rfl rfl ?_
        refine ez_iconst (v := 2) dX3_leastThatWins_31 (by decide) ?_
        refine ez_icmp_le (tgt := 40) dX3_leastThatWins_32 (by decide) (fun c25 => ?_) (fun c25 => absurd (by decide) c25)
        refine ez_iconst (v := 0) dX3_leastThatWins_40 (by decide) ?_
        refine ez_icmp_gt (tgt := 81) dX3_leastThatWins_41 (by decide) (fun c26 => ?_) (fun c26 => absurd (by decide) c26)
        refine ez_iinc (v := (nI (j + 1))) (l' := [(4, .int ((nI (j + 1)))), (5, .int (nI 1)), (3, .int (nI k)), (0, .ref 105), (1, .int 2), (2, .int (nI n0))]) dX3_leastThatWins_81 rfl (nI_1 _) (by decide) rfl ?_
        refine ez_goto (tgt := 10) dX3_leastThatWins_84 (by decide) ?_
        refine ez_sub (l' := [(4, .int ((nI (j + 1)))), (3, .int (nI k)), (0, .ref 105), (1, .int 2), (2, .int (nI n0))]) [0, 2, 3, 4, 5] rfl ?_
        exact ez_eq (l2 := [(4, .int (nI (j + 1))), (3, .int (nI k)), (0, .ref 105), (1, .int 2), (2, .int (nI n0))]) rfl rfl rfl rfl (ih2 (Ia3, gc) ⟨hKl3, (fun x1 y1 z1 q1 q2 q3 q4 q5 => hex3 x1 y1 z1 q1 q2 q3 q4 (by unfold zl3 at q5 ⊢; omega))⟩)
    · rintro ⟨Ia2, gb⟩ ⟨hKl2, hex2⟩
      have hKl2 : zK n kd I0 L0 R0 gb Ia2 L Rf T G Bf w := hKl2
      have hex2 : zwk 2 (gb 106) k (k + 1) 0 := hex2
      show ez_P _ _ _ _ _ _ 10 [(4, .int (nI (k + 1))), (3, .int (nI k)), (0, .ref 105), (1, .int 2), (2, .int (nI n0))] [] (n, sl, kd, Ia2, L, Rf) _
      refine ez_iload (i := 4) dX3_leastThatWins_10 rfl ?_
      refine ez_iload_n (i := 1) dX3_leastThatWins_12 rfl rfl ?_
      refine ez_iconst (v := 1) dX3_leastThatWins_13 (by decide) ?_
      refine ez_icmp_le (tgt := 21) dX3_leastThatWins_14 (by decide) (fun c27 => absurd c27 (by decide)) (fun c27 => ?_)
      refine ez_iload_n (i := 3) dX3_leastThatWins_17 rfl rfl ?_
      refine ez_goto (tgt := 22) dX3_leastThatWins_18 (by decide) ?_
      refine ez_icmp_gt (tgt := 87) dX3_leastThatWins_22 (by decide) (fun c28 => ?_) (fun c28 => absurd (nI_lt (by omega) (by omega)) c28)
      refine ez_iinc (v := (nI (k + 1))) (l' := [(3, .int ((nI (k + 1)))), (4, .int (nI (k + 1))), (0, .ref 105), (1, .int 2), (2, .int (nI n0))]) dX3_leastThatWins_87 rfl (nI_1 _) (by decide) rfl ?_
      refine ez_goto (tgt := 2) dX3_leastThatWins_90 (by decide) ?_
      refine ez_sub (l' := [(3, .int ((nI (k + 1)))), (0, .ref 105), (1, .int 2), (2, .int (nI n0))]) [0, 2, 3, 4] rfl ?_
      exact ez_eq (l2 := [(3, .int (nI (k + 1))), (0, .ref 105), (1, .int 2), (2, .int (nI n0))]) rfl rfl rfl rfl (ih (Ia2, gb) ⟨hKl2, (fun x1 y1 z1 q1 q2 q3 q4 q5 => hex2 x1 y1 z1 q1 q2 q3 q4 (by unfold zl3 at q5 ⊢; omega))⟩)
  · rintro ⟨Ia, ga⟩ ⟨hKl, hex⟩
    have hKl : zK n kd I0 L0 R0 ga Ia L Rf T G Bf w := hKl
    have hex : zwk 2 (ga 106) (n0 + 1) 0 0 := hex
    show ez_P _ _ _ _ _ _ 2 [(3, .int (nI (n0 + 1))), (0, .ref 105), (1, .int 2), (2, .int (nI n0))] [] (n, sl, kd, Ia, L, Rf) _
    refine ez_iload_n (i := 3) dX3_leastThatWins_2 rfl rfl ?_
    refine ez_iload_n (i := 2) dX3_leastThatWins_3 rfl rfl ?_
    refine ez_icmp_gt (tgt := 93) dX3_leastThatWins_4 (by decide) (fun c29 => ?_) (fun c29 => absurd (nI_lt (by omega) (by omega)) c29)
    refine ez_aload_n (i := 0) dX3_leastThatWins_93 rfl rfl ?_
    refine ez_iload_n (i := 2) dX3_leastThatWins_94 rfl rfl ?_
    refine ez_iload_n (i := 1) dX3_leastThatWins_95 rfl rfl ?_
    refine ez_iconst (v := 1) dX3_leastThatWins_96 (by decide) ?_
    refine ez_icmp_le (tgt := 104) dX3_leastThatWins_97 (by decide) (fun c30 => absurd c30 (by decide)) (fun c30 => ?_)
    refine ez_iload_n (i := 2) dX3_leastThatWins_100 rfl rfl ?_
    refine ez_goto (tgt := 105) dX3_leastThatWins_101 (by decide) ?_
    refine ez_iload_n (i := 1) dX3_leastThatWins_105 rfl rfl ?_
    refine ez_iconst (v := 2) dX3_leastThatWins_106 (by decide) ?_
    refine ez_icmp_le (tgt := 114) dX3_leastThatWins_107 (by decide) (fun c31 => ?_) (fun c31 => absurd (by decide) c31)
    refine ez_iconst (v := 0) dX3_leastThatWins_114 (by decide) ?_
    refine ez_callV (M1 := mX3_leave) (rest := []) dX3_leastThatWins_115 mlX3_19 mvX3_leave rfl (hF.lt (by decide)) (hF.kc (by decide) rfl) (Nat.le_of_ble_eq_true rfl) rfl (k_leave (T := T) (I := Ia) (L := L) (d + 9) hKl hO hH n0 n0 0) zpKg_ok ?_
    rintro _ _ ⟨rfl, I32, gl34, rfl, hK33, hl35⟩
    show ez_P _ _ _ _ _ _ 118 [(3, .int (nI (n0 + 1))), (0, .ref 105), (1, .int 2), (2, .int (nI n0))] [] (n, sl, kd, I32, L, Rf) _
    have hK33 : zK n kd I0 L0 R0 gl34 I32 L Rf T G Bf w := hK33
    have h636 : gl34 106 = ga 106 := hl35.2.2.2 106 (by decide)
    refine ez_aload_n (i := 0) dX3_leastThatWins_118 rfl rfl ?_
    refine ez_callV (M1 := mX3_winningPiece) (rest := []) dX3_leastThatWins_119 mlX3_23 mvX3_winningPiece rfl (hF.lt (by decide)) (hF.kc (by decide) rfl) (Nat.le_of_ble_eq_true rfl) rfl (k_win (T := T) (I := I32) (L := L) (d + 4) hK33 hO hH (ca := n0) (cb := n0) (cc := 0) (by omega) ⟨hl35.1, hl35.2.1, hl35.2.2.1⟩) eb_rok ?_
    rintro _ _ ⟨rfl, rfl⟩
    rw [h636, zwin_cg (R := 2) (by omega) (by omega) (by omega) (by omega) (fun x1 y1 z1 q1 q2 q3 q4 q5 => hex x1 y1 z1 q1 q2 q3 q4 (Or.inl (by unfold zl3 at q5; omega)))]
    show ez_P _ _ _ _ _ _ 122 [(3, .int (nI (n0 + 1))), (0, .ref 105), (1, .int 2), (2, .int (nI n0))] (.int (zcr3 (zwin zwt1 n0 n0 0)) :: []) (n, sl, kd, I32, L, Rf) _
    refine ez_iret dX3_leastThatWins_122 rfl rfl ?_
    rw [show zck 2 n0 = zcr3 (zwin zwt1 n0 n0 0) from by unfold zck; rw [if_neg (by decide), if_pos (by decide), ← (zwin_k (by omega) (by omega) (by omega)).1]]
    exact ⟨rfl, _, _, rfl, hK33, trivial⟩
theorem c_cake_2 {n : Nat} {sl : Nat × Nat} {kd : Nat → Nat × Nat} {I : Nat → Nat → Int32} {L : Nat → Nat → Int64} {Rf : Nat → Nat → Option Nat} (d : Nat) {T : zT} {H : Nat} (hC : zC n kd I L Rf T) (hO : zOk H T) (hH : H ≤ 1000000000) {n0 : Nat} (hn1 : 1 ≤ n0) (hn : n0 ≤ 7) : zq mX10_cake (d + 60) [.ref 0, .int 2, .int (nI n0)] (n, sl, kd, I, L, Rf) (zpC n sl kd I L Rf (some (.int (s_cake T 2 (nI n0)).1)) (s_cake T 2 (nI n0)).2) := by
  have hF := hC.F; have hc7 := hO.c
  have hK0 : zK n kd I L Rf I I L Rf T none none false := zK.start hC
  have hsp : s_cake T 2 (nI n0) = (zck 2 n0, T) := (by unfold s_cake; rw [if_pos ⟨by decide, z_n19 (N := 7) hn1 hn (by decide)⟩, nI_clamp (by omega), show (2 : Int32).toNatClampNeg = 2 from by decide])
  rw [hsp]
  intro f B
  refine ez_meth pn_X.2.2.2.2.2.2.2.2.2.2.1 (Nat.le_of_ble_eq_true rfl) ?_
  show ez_P _ _ _ _ _ _ 0 [(0, .ref 0), (1, .int 2), (2, .int (nI n0))] [] (n, sl, kd, I, L, Rf) _
  refine ez_iload_n (i := 1) dX10_cake_0 rfl rfl ?_
  refine ez_iconst (v := 1) dX10_cake_1 (by decide) ?_
  refine ez_iconst (v := 3) dX10_cake_2 (by decide) ?_
  refine ez_callS (M1 := mX10_within) (rest := []) dX10_cake_3 mlX10_158 msX10_within rfl (Nat.le_of_ble_eq_true rfl) rfl (zq_b1 (by decide) (zq_b (q_X10_within (d + 59) 2 1 3) (n, sl, kd, I, L, Rf))) eb_rok ?_
  rintro _ _ ⟨rfl, rfl⟩
  show ez_P _ _ _ _ _ _ 6 [(0, .ref 0), (1, .int 2), (2, .int (nI n0))] (.int 1 :: []) _ _
  refine ez_if_eq (tgt := 19) dX10_cake_6 (by decide) (fun c1 => absurd c1 (by decide)) (fun c1 => ?_)
  refine ez_iload_n (i := 2) dX10_cake_9 rfl rfl ?_
  refine ez_iconst (v := 1) dX10_cake_10 (by decide) ?_
  refine ez_bipush (v := 7) dX10_cake_11 (by decide) ?_
  refine ez_callS (M1 := mX10_within) (rest := []) dX10_cake_13 mlX10_158 msX10_within rfl (Nat.le_of_ble_eq_true rfl) rfl (zq_b1 (z_n19 (N := 7) hn1 hn (by decide)) (zq_b (q_X10_within (d + 59) (nI n0) 1 7) (n, sl, kd, I, L, Rf))) eb_rok ?_
  rintro _ _ ⟨rfl, rfl⟩
  show ez_P _ _ _ _ _ _ 16 [(0, .ref 0), (1, .int 2), (2, .int (nI n0))] (.int 1 :: []) _ _
  refine ez_if_ne (tgt := 21) dX10_cake_16 (by decide) (fun c2 => ?_) (fun c2 => absurd (by decide) c2)
  refine ez_aload_n (i := 0) dX10_cake_21 rfl rfl ?_
  refine ez_getR dX10_cake_22 flX10_87 (hF.lt (by decide)) (hF.kc (by decide) rfl) (hF.pt 100 rfl) ?_
  refine ez_iload_n (i := 1) dX10_cake_25 rfl rfl ?_
  refine ez_iload_n (i := 2) dX10_cake_26 rfl rfl ?_
  refine ez_callV (M1 := mX3_leastThatWins) (rest := []) dX10_cake_27 mlX10_397 mvX3_leastThatWins rfl (hF.lt (by decide)) (hF.kc (by decide) rfl) (Nat.le_of_ble_eq_true rfl) rfl (k_ltw_2 (T := T) (I := I) (L := L) (d + 29) hK0 hO hH hn1 hn) zpKg_ok ?_
  rintro _ _ ⟨rfl, I3, gz, rfl, hK4, _⟩
  show ez_P _ _ _ _ _ _ 30 [(0, .ref 0), (1, .int 2), (2, .int (nI n0))] (.int (zck 2 n0) :: []) (n, sl, kd, I3, L, Rf) _
  have hK4 : zK n kd I L Rf gz I3 L Rf T none none false := hK4
  refine ez_iret dX10_cake_30 rfl rfl ?_
  exact hK4.end
theorem k_ltw_3 {n : Nat} {sl : Nat × Nat} {kd : Nat → Nat × Nat} {I : Nat → Nat → Int32} {L : Nat → Nat → Int64} {Rf : Nat → Nat → Option Nat} (d : Nat) {T : zT} {H : Nat} {I0 g : Nat → Nat → Int32} {L0 : Nat → Nat → Int64} {R0 : Nat → Nat → Option Nat} {G Bf : Option (Nat → Int32)} {w : Bool} (hK : zK n kd I0 L0 R0 g I L Rf T G Bf w) (hO : zOk H T) (hH : H ≤ 1000000000) {n0 : Nat} (hn1 : 1 ≤ n0) (hn : n0 ≤ 7) : zq mX3_leastThatWins (d + 30) [.ref 105, .int 3, .int (nI n0)] (n, sl, kd, I, L, Rf) (zpKg n sl kd I0 L0 R0 L Rf T G Bf w (some (.int (zck 3 n0))) (fun _ => True)) := by
  have hC := hK.C; have hF := hC.F; have hc7 := hO.c
  intro f B
  refine ez_meth pn_X.2.2.2.1 (Nat.le_of_ble_eq_true rfl) ?_
  show ez_P _ _ _ _ _ _ 0 [(0, .ref 105), (1, .int 3), (2, .int (nI n0))] [] (n, sl, kd, I, L, Rf) _
  refine ez_iconst (v := 0) dX3_leastThatWins_0 (by decide) ?_
  refine ez_istore_n (l' := [(3, .int 0), (0, .ref 105), (1, .int 3), (2, .int (nI n0))]) dX3_leastThatWins_1 rfl (by decide) rfl ?_
  refine ez_eq (l2 := [(3, .int (nI 0)), (0, .ref 105), (1, .int 3), (2, .int (nI n0))]) (σ2 := (n, sl, kd, I, L, Rf)) rfl rfl rfl rfl ?_
  refine ez_for (n0 + 1) (fun k (a : (Nat → Nat → Int32) × (Nat → Nat → Int32)) => ([(3, .int (nI k)), (0, .ref 105), (1, .int 3), (2, .int (nI n0))], (n, sl, kd, a.1, L, Rf))) (fun k a => zK n kd I0 L0 R0 a.2 a.1 L Rf T G Bf w ∧ zwk 3 (a.2 106) k 0 0) ?_ ?_ (n0 + 1) 0 (I, g) (by omega) ⟨hK, (fun x1 y1 z1 q1 q2 q3 q4 q5 => by unfold zl3 at q5; omega)⟩
  · rintro k ⟨Ia, ga⟩ hk ⟨hKl, hex⟩ ih
    have hKl : zK n kd I0 L0 R0 ga Ia L Rf T G Bf w := hKl
    have hex : zwk 3 (ga 106) k 0 0 := hex
    show ez_P _ _ _ _ _ _ 2 [(3, .int (nI k)), (0, .ref 105), (1, .int 3), (2, .int (nI n0))] [] (n, sl, kd, Ia, L, Rf) _
    refine ez_iload_n (i := 3) dX3_leastThatWins_2 rfl rfl ?_
    refine ez_iload_n (i := 2) dX3_leastThatWins_3 rfl rfl ?_
    refine ez_icmp_gt (tgt := 93) dX3_leastThatWins_4 (by decide) (fun c1 => absurd c1 (Int32.not_lt.mpr (nI_le (by omega) (by omega)))) (fun c1 => ?_)
    refine ez_iconst (v := 0) dX3_leastThatWins_7 (by decide) ?_
    refine ez_istore (l' := [(4, .int 0), (3, .int (nI k)), (0, .ref 105), (1, .int 3), (2, .int (nI n0))]) dX3_leastThatWins_8 (by decide) rfl ?_
    refine ez_eq (l2 := [(4, .int (nI 0)), (3, .int (nI k)), (0, .ref 105), (1, .int 3), (2, .int (nI n0))]) (σ2 := (n, sl, kd, Ia, L, Rf)) rfl rfl rfl rfl ?_
    refine ez_for (k + 1) (fun j (a : (Nat → Nat → Int32) × (Nat → Nat → Int32)) => ([(4, .int (nI j)), (3, .int (nI k)), (0, .ref 105), (1, .int 3), (2, .int (nI n0))], (n, sl, kd, a.1, L, Rf))) (fun j a => zK n kd I0 L0 R0 a.2 a.1 L Rf T G Bf w ∧ zwk 3 (a.2 106) k j 0) ?_ ?_ (k + 1) 0 (Ia, ga) (by omega) ⟨hKl, hex⟩
    · rintro j ⟨Ia2, gb⟩ hk2 ⟨hKl2, hex2⟩ ih2
      have hKl2 : zK n kd I0 L0 R0 gb Ia2 L Rf T G Bf w := hKl2
      have hex2 : zwk 3 (gb 106) k j 0 := hex2
      show ez_P _ _ _ _ _ _ 10 [(4, .int (nI j)), (3, .int (nI k)), (0, .ref 105), (1, .int 3), (2, .int (nI n0))] [] (n, sl, kd, Ia2, L, Rf) _
      refine ez_iload (i := 4) dX3_leastThatWins_10 rfl ?_
      refine ez_iload_n (i := 1) dX3_leastThatWins_12 rfl rfl ?_
      refine ez_iconst (v := 1) dX3_leastThatWins_13 (by decide) ?_
      refine ez_icmp_le (tgt := 21) dX3_leastThatWins_14 (by decide) (fun c2 => absurd c2 (by decide)) (fun c2 => ?_)
      refine ez_iload_n (i := 3) dX3_leastThatWins_17 rfl rfl ?_
      refine ez_goto (tgt := 22) dX3_leastThatWins_18 (by decide) ?_
      refine ez_icmp_gt (tgt := 87) dX3_leastThatWins_22 (by decide) (fun c3 => absurd c3 (Int32.not_lt.mpr (nI_le (by omega) (by omega)))) (fun c3 => ?_)
      refine ez_iconst (v := 0) dX3_leastThatWins_25 (by decide) ?_
      refine ez_istore (l' := [(5, .int 0), (4, .int (nI j)), (3, .int (nI k)), (0, .ref 105), (1, .int 3), (2, .int (nI n0))]) dX3_leastThatWins_26 (by decide) rfl ?_
      refine ez_eq (l2 := [(5, .int (nI 0)), (4, .int (nI j)), (3, .int (nI k)), (0, .ref 105), (1, .int 3), (2, .int (nI n0))]) (σ2 := (n, sl, kd, Ia2, L, Rf)) rfl rfl rfl rfl ?_
      refine ez_for (j + 1) (fun i (a : (Nat → Nat → Int32) × (Nat → Nat → Int32)) => ([(5, .int (nI i)), (4, .int (nI j)), (3, .int (nI k)), (0, .ref 105), (1, .int 3), (2, .int (nI n0))], (n, sl, kd, a.1, L, Rf))) (fun i a => zK n kd I0 L0 R0 a.2 a.1 L Rf T G Bf w ∧ zwk 3 (a.2 106) k j i) ?_ ?_ (j + 1) 0 (Ia2, gb) (by omega) ⟨hKl2, hex2⟩
      · rintro i ⟨Ia3, gc⟩ hk3 ⟨hKl3, hex3⟩ ih3
        have hKl3 : zK n kd I0 L0 R0 gc Ia3 L Rf T G Bf w := hKl3
        have hex3 : zwk 3 (gc 106) k j i := hex3
        show ez_P _ _ _ _ _ _ 28 [(5, .int (nI i)), (4, .int (nI j)), (3, .int (nI k)), (0, .ref 105), (1, .int 3), (2, .int (nI n0))] [] (n, sl, kd, Ia3, L, Rf) _
        refine ez_iload (i := 5) dX3_leastThatWins_28 rfl ?_
        refine ez_iload_n (i := 1) dX3_leastThatWins_30 rfl rfl ?_
        refine ez_iconst (v := 2) dX3_leastThatWins_31 (by decide) ?_
        refine ez_icmp_le (tgt := 40) dX3_leastThatWins_32 (by decide) (fun c4 => absurd c4 (by decide)) (fun c4 => ?_)
        refine ez_iload (i := 4) dX3_leastThatWins_35 rfl ?_
        refine ez_goto (tgt := 41) dX3_leastThatWins_37 (by decide) ?_
        refine ez_icmp_gt (tgt := 81) dX3_leastThatWins_41 (by decide) (fun c5 => absurd c5 (Int32.not_lt.mpr (nI_le (by omega) (by omega)))) (fun c5 => ?_)
        refine ez_aload_n (i := 0) dX3_leastThatWins_44 rfl rfl ?_
        refine ez_iload_n (i := 3) dX3_leastThatWins_45 rfl rfl ?_
        refine ez_iload (i := 4) dX3_leastThatWins_46 rfl ?_
        refine ez_iload (i := 5) dX3_leastThatWins_48 rfl ?_
        refine ez_callV (M1 := mX3_leave) (rest := []) dX3_leastThatWins_50 mlX3_19 mvX3_leave rfl (hF.lt (by decide)) (hF.kc (by decide) rfl) (Nat.le_of_ble_eq_true rfl) rfl (k_leave (T := T) (I := Ia3) (L := L) (d + 9) hKl3 hO hH k j i) zpKg_ok ?_
        rintro _ _ ⟨rfl, I6, gl8, rfl, hK7, hl9⟩
        show ez_P _ _ _ _ _ _ 53 [(5, .int (nI i)), (4, .int (nI j)), (3, .int (nI k)), (0, .ref 105), (1, .int 3), (2, .int (nI n0))] [] (n, sl, kd, I6, L, Rf) _
        have hK7 : zK n kd I0 L0 R0 gl8 I6 L Rf T G Bf w := hK7
        have h610 : gl8 106 = gc 106 := hl9.2.2.2 106 (by decide)
        refine ez_aload_n (i := 0) dX3_leastThatWins_53 rfl rfl ?_
        refine ez_iload_n (i := 3) dX3_leastThatWins_54 rfl rfl ?_
        refine ez_if_eq (tgt := 67) dX3_leastThatWins_55 (by decide) (fun c11 => ?_) (fun c11 => ?_)
        · skip
          refine ez_iconst (v := 1) dX3_leastThatWins_67 (by decide) ?_
          refine ez_goto (tgt := 72) dX3_leastThatWins_68 (by decide) ?_
          refine ez_callV (M1 := mX3_setWins) (rest := []) dX3_leastThatWins_72 mlX3_27 mvX3_setWins rfl (hF.lt (by decide)) (hF.kc (by decide) rfl) (Nat.le_of_ble_eq_true rfl) rfl (k_setw_1 (T := T) (I := I6) (L := L) (d + 4) hK7 hO hH (ca := k) (cb := j) (cc := i) (by omega) ⟨hl9.1, hl9.2.1, hl9.2.2.1⟩) zpKg_ok ?_
          rintro _ _ ⟨rfl, I12, gs14, rfl, hK13, hs15⟩
          show ez_P _ _ _ _ _ _ 75 [(5, .int (nI i)), (4, .int (nI j)), (3, .int (nI k)), (0, .ref 105), (1, .int 3), (2, .int (nI n0))] [] (n, sl, kd, I12, L, Rf) _
          have hK13 : zK n kd I0 L0 R0 gs14 I12 L Rf T G Bf w := hK13
          refine ez_iinc (v := (nI (i + 1))) (l' := [(5, .int ((nI (i + 1)))), (4, .int (nI j)), (3, .int (nI k)), (0, .ref 105), (1, .int 3), (2, .int (nI n0))]) dX3_leastThatWins_75 rfl (nI_1 _) (by decide) rfl ?_
          refine ez_goto (tgt := 28) dX3_leastThatWins_78 (by decide) ?_
          have hnew : zwk 3 (gs14 106) k j (i + 1) := by
            intro x1 y1 z1 q1 q2 q3 q4 q5
            rw [hs15.1]
            by_cases e : 64 * x1 + 8 * y1 + z1 = 64 * k + 8 * j + i
            · have e1 : x1 = k ∧ y1 = j ∧ z1 = i := by unfold zl3 at q5; omega
              rw [if_pos e, e]
              have k0 : k = 0 := nI_inj0 c11 (by omega)
              rw [show 64 * k + 8 * j + i = 0 from by omega]; rfl
            · rw [if_neg e, h610]; exact hex3 x1 y1 z1 q1 q2 q3 q4 (by unfold zl3 at q5 ⊢; omega)
          exact ez_eq (l2 := [(5, .int (nI (i + 1))), (4, .int (nI j)), (3, .int (nI k)), (0, .ref 105), (1, .int 3), (2, .int (nI n0))]) rfl rfl rfl rfl (ih3 (I12, gs14) ⟨hK13, hnew⟩)
        · skip
          refine ez_aload_n (i := 0) dX3_leastThatWins_58 rfl rfl ?_
          refine ez_callV (M1 := mX3_winningPiece) (rest := [.ref 105]) dX3_leastThatWins_59 mlX3_23 mvX3_winningPiece rfl (hF.lt (by decide)) (hF.kc (by decide) rfl) (Nat.le_of_ble_eq_true rfl) rfl (k_win (T := T) (I := I6) (L := L) (d + 4) hK7 hO hH (ca := k) (cb := j) (cc := i) (by omega) ⟨hl9.1, hl9.2.1, hl9.2.2.1⟩) eb_rok ?_
          rintro _ _ ⟨rfl, rfl⟩
          rw [h610, zwin_cg (R := 3) (by omega) (by omega) (by omega) (by omega) hex3]
          show ez_P _ _ _ _ _ _ 62 [(5, .int (nI i)), (4, .int (nI j)), (3, .int (nI k)), (0, .ref 105), (1, .int 3), (2, .int (nI n0))] (.int (zcr3 (zwin zwt1 k j i)) :: [.ref 105]) (n, sl, kd, I6, L, Rf) _
          refine ez_bipush (v := (-2)) dX3_leastThatWins_62 (by decide) ?_
          refine ez_icmp_eq (tgt := 71) dX3_leastThatWins_64 (by decide) (fun c16 => ?_) (fun c16 => ?_)
          · skip
            refine ez_iconst (v := 0) dX3_leastThatWins_71 (by decide) ?_
            refine ez_callV (M1 := mX3_setWins) (rest := []) dX3_leastThatWins_72 mlX3_27 mvX3_setWins rfl (hF.lt (by decide)) (hF.kc (by decide) rfl) (Nat.le_of_ble_eq_true rfl) rfl (k_setw_0 (T := T) (I := I6) (L := L) (d + 4) hK7 hO hH (ca := k) (cb := j) (cc := i) (by omega) ⟨hl9.1, hl9.2.1, hl9.2.2.1⟩) zpKg_ok ?_
            rintro _ _ ⟨rfl, I17, gs19, rfl, hK18, hs20⟩
            show ez_P _ _ _ _ _ _ 75 [(5, .int (nI i)), (4, .int (nI j)), (3, .int (nI k)), (0, .ref 105), (1, .int 3), (2, .int (nI n0))] [] (n, sl, kd, I17, L, Rf) _
            have hK18 : zK n kd I0 L0 R0 gs19 I17 L Rf T G Bf w := hK18
            refine ez_iinc (v := (nI (i + 1))) (l' := [(5, .int ((nI (i + 1)))), (4, .int (nI j)), (3, .int (nI k)), (0, .ref 105), (1, .int 3), (2, .int (nI n0))]) dX3_leastThatWins_75 rfl (nI_1 _) (by decide) rfl ?_
            refine ez_goto (tgt := 28) dX3_leastThatWins_78 (by decide) ?_
            have hnew : zwk 3 (gs19 106) k j (i + 1) := by
              intro x1 y1 z1 q1 q2 q3 q4 q5
              rw [hs20.1]
              by_cases e : 64 * x1 + 8 * y1 + z1 = 64 * k + 8 * j + i
              · have e1 : x1 = k ∧ y1 = j ∧ z1 = i := by unfold zl3 at q5; omega
                rw [if_pos e, e]
                have hz := zwin_k (x := k) (y := j) (z := i) (by omega) (by omega) (by omega)
                exact (((hz.2.1 ((zcr_m2 (fun t ht => zwin_lt ht (by omega))).mp c16)).resolve_left (fun e => c11 (by rw [e]; rfl))).symm)
              · rw [if_neg e, h610]; exact hex3 x1 y1 z1 q1 q2 q3 q4 (by unfold zl3 at q5 ⊢; omega)
            exact ez_eq (l2 := [(5, .int (nI (i + 1))), (4, .int (nI j)), (3, .int (nI k)), (0, .ref 105), (1, .int 3), (2, .int (nI n0))]) rfl rfl rfl rfl (ih3 (I17, gs19) ⟨hK18, hnew⟩)
          · skip
            refine ez_iconst (v := 1) dX3_leastThatWins_67 (by decide) ?_
            refine ez_goto (tgt := 72) dX3_leastThatWins_68 (by decide) ?_
            refine ez_callV (M1 := mX3_setWins) (rest := []) dX3_leastThatWins_72 mlX3_27 mvX3_setWins rfl (hF.lt (by decide)) (hF.kc (by decide) rfl) (Nat.le_of_ble_eq_true rfl) rfl (k_setw_1 (T := T) (I := I6) (L := L) (d + 4) hK7 hO hH (ca := k) (cb := j) (cc := i) (by omega) ⟨hl9.1, hl9.2.1, hl9.2.2.1⟩) zpKg_ok ?_
            rintro _ _ ⟨rfl, I21, gs23, rfl, hK22, hs24⟩
            show ez_P _ _ _ _ _ _ 75 [(5, .int (nI i)), (4, .int (nI j)), (3, .int (nI k)), (0, .ref 105), (1, .int 3), (2, .int (nI n0))] [] (n, sl, kd, I21, L, Rf) _
            have hK22 : zK n kd I0 L0 R0 gs23 I21 L Rf T G Bf w := hK22
            refine ez_iinc (v := (nI (i + 1))) (l' := [(5, .int ((nI (i + 1)))), (4, .int (nI j)), (3, .int (nI k)), (0, .ref 105), (1, .int 3), (2, .int (nI n0))]) dX3_leastThatWins_75 rfl (nI_1 _) (by decide) rfl ?_
            refine ez_goto (tgt := 28) dX3_leastThatWins_78 (by decide) ?_
            have hnew : zwk 3 (gs23 106) k j (i + 1) := by
              intro x1 y1 z1 q1 q2 q3 q4 q5
              rw [hs24.1]
              by_cases e : 64 * x1 + 8 * y1 + z1 = 64 * k + 8 * j + i
              · have e1 : x1 = k ∧ y1 = j ∧ z1 = i := by unfold zl3 at q5; omega
                rw [if_pos e, e]
                have hz := zwin_k (x := k) (y := j) (z := i) (by omega) (by omega) (by omega)
                exact (hz.2.2 (fun g => c16 ((zcr_m2 (fun t ht => zwin_lt ht (by omega))).mpr g))).symm
              · rw [if_neg e, h610]; exact hex3 x1 y1 z1 q1 q2 q3 q4 (by unfold zl3 at q5 ⊢; omega)
            exact ez_eq (l2 := [(5, .int (nI (i + 1))), (4, .int (nI j)), (3, .int (nI k)), (0, .ref 105), (1, .int 3), (2, .int (nI n0))]) rfl rfl rfl rfl (ih3 (I21, gs23) ⟨hK22, hnew⟩)
      · rintro ⟨Ia3, gc⟩ ⟨hKl3, hex3⟩
        have hKl3 : zK n kd I0 L0 R0 gc Ia3 L Rf T G Bf w := hKl3
        have hex3 : zwk 3 (gc 106) k j (j + 1) := hex3
        show ez_P _ _ _ _ _ _ 28 [(5, .int (nI (j + 1))), (4, .int (nI j)), (3, .int (nI k)), (0, .ref 105), (1, .int 3), (2, .int (nI n0))] [] (n, sl, kd, Ia3, L, Rf) _
        refine ez_iload (i := 5) dX3_leastThatWins_28 rfl ?_
        refine ez_iload_n (i := 1) dX3_leastThatWins_30 rfl rfl ?_
        refine ez_iconst (v := 2) dX3_leastThatWins_31 (by decide) ?_
        refine ez_icmp_le (tgt := 40) dX3_leastThatWins_32 (by decide) (fun c25 => absurd c25 (by decide)) (fun c25 => ?_)
        refine ez_iload (i := 4) dX3_leastThatWins_35 rfl ?_
        refine ez_goto (tgt := 41) dX3_leastThatWins_37 (by decide) ?_
        refine ez_icmp_gt (tgt := 81) dX3_leastThatWins_41 (by decide) (fun c26 => ?_) (fun c26 => absurd (nI_lt (by omega) (by omega)) c26)
        refine ez_iinc (v := (nI (j + 1))) (l' := [(4, .int ((nI (j + 1)))), (5, .int (nI (j + 1))), (3, .int (nI k)), (0, .ref 105), (1, .int 3), (2, .int (nI n0))]) dX3_leastThatWins_81 rfl (nI_1 _) (by decide) rfl ?_
        refine ez_goto (tgt := 10) dX3_leastThatWins_84 (by decide) ?_
        refine ez_sub (l' := [(4, .int ((nI (j + 1)))), (3, .int (nI k)), (0, .ref 105), (1, .int 3), (2, .int (nI n0))]) [0, 2, 3, 4, 5] rfl ?_
        exact ez_eq (l2 := [(4, .int (nI (j + 1))), (3, .int (nI k)), (0, .ref 105), (1, .int 3), (2, .int (nI n0))]) rfl rfl rfl rfl (ih2 (Ia3, gc) ⟨hKl3, (fun x1 y1 z1 q1 q2 q3 q4 q5 => hex3 x1 y1 z1 q1 q2 q3 q4 (by unfold zl3 at q5 ⊢; omega))⟩)
    · rintro ⟨Ia2, gb⟩ ⟨hKl2, hex2⟩
      have hKl2 : zK n kd I0 L0 R0 gb Ia2 L Rf T G Bf w := hKl2
      have hex2 : zwk 3 (gb 106) k (k + 1) 0 := hex2
      show ez_P _ _ _ _ _ _ 10 [(4, .int (nI (k + 1))), (3, .int (nI k)), (0, .ref 105), (1, .int 3), (2, .int (nI n0))] [] (n, sl, kd, Ia2, L, Rf) _
      refine ez_iload (i := 4) dX3_leastThatWins_10 rfl ?_
      refine ez_iload_n (i := 1) dX3_leastThatWins_12 rfl rfl ?_
      refine ez_iconst (v := 1) dX3_leastThatWins_13 (by decide) ?_
      refine ez_icmp_le (tgt := 21) dX3_leastThatWins_14 (by decide) (fun c27 => absurd c27 (by decide)) (fun c27 => ?_)
      refine ez_iload_n (i := 3) dX3_leastThatWins_17 rfl rfl ?_
      refine ez_goto (tgt := 22) dX3_leastThatWins_18 (by decide) ?_
      refine ez_icmp_gt (tgt := 87) dX3_leastThatWins_22 (by decide) (fun c28 => ?_) (fun c28 => absurd (nI_lt (by omega) (by omega)) c28)
      refine ez_iinc (v := (nI (k + 1))) (l' := [(3, .int ((nI (k + 1)))), (4, .int (nI (k + 1))), (0, .ref 105), (1, .int 3), (2, .int (nI n0))]) dX3_leastThatWins_87 rfl (nI_1 _) (by decide) rfl ?_
      refine ez_goto (tgt := 2) dX3_leastThatWins_90 (by decide) ?_
      refine ez_sub (l' := [(3, .int ((nI (k + 1)))), (0, .ref 105), (1, .int 3), (2, .int (nI n0))]) [0, 2, 3, 4] rfl ?_
      exact ez_eq (l2 := [(3, .int (nI (k + 1))), (0, .ref 105), (1, .int 3), (2, .int (nI n0))]) rfl rfl rfl rfl (ih (Ia2, gb) ⟨hKl2, (fun x1 y1 z1 q1 q2 q3 q4 q5 => hex2 x1 y1 z1 q1 q2 q3 q4 (by unfold zl3 at q5 ⊢; omega))⟩)
  · rintro ⟨Ia, ga⟩ ⟨hKl, hex⟩
    have hKl : zK n kd I0 L0 R0 ga Ia L Rf T G Bf w := hKl
    have hex : zwk 3 (ga 106) (n0 + 1) 0 0 := hex
    show ez_P _ _ _ _ _ _ 2 [(3, .int (nI (n0 + 1))), (0, .ref 105), (1, .int 3), (2, .int (nI n0))] [] (n, sl, kd, Ia, L, Rf) _
    refine ez_iload_n (i := 3) dX3_leastThatWins_2 rfl rfl ?_
    refine ez_iload_n (i := 2) dX3_leastThatWins_3 rfl rfl ?_
    refine ez_icmp_gt (tgt := 93) dX3_leastThatWins_4 (by decide) (fun c29 => ?_) (fun c29 => absurd (nI_lt (by omega) (by omega)) c29)
    refine ez_aload_n (i := 0) dX3_leastThatWins_93 rfl rfl ?_
    refine ez_iload_n (i := 2) dX3_leastThatWins_94 rfl rfl ?_
    refine ez_iload_n (i := 1) dX3_leastThatWins_95 rfl rfl ?_
    refine ez_iconst (v := 1) dX3_leastThatWins_96 (by decide) ?_
    refine ez_icmp_le (tgt := 104) dX3_leastThatWins_97 (by decide) (fun c30 => absurd c30 (by decide)) (fun c30 => ?_)
    refine ez_iload_n (i := 2) dX3_leastThatWins_100 rfl rfl ?_
    refine ez_goto (tgt := 105) dX3_leastThatWins_101 (by decide) ?_
    refine ez_iload_n (i := 1) dX3_leastThatWins_105 rfl rfl ?_
    refine ez_iconst (v := 2) dX3_leastThatWins_106 (by decide) ?_
    refine ez_icmp_le (tgt := 114) dX3_leastThatWins_107 (by decide) (fun c31 => absurd c31 (by decide)) (fun c31 => ?_)
    refine ez_iload_n (i := 2) dX3_leastThatWins_110 rfl rfl ?_
    refine ez_goto (tgt := 115) dX3_leastThatWins_111 (by decide) ?_
    refine ez_callV (M1 := mX3_leave) (rest := []) dX3_leastThatWins_115 mlX3_19 mvX3_leave rfl (hF.lt (by decide)) (hF.kc (by decide) rfl) (Nat.le_of_ble_eq_true rfl) rfl (k_leave (T := T) (I := Ia) (L := L) (d + 9) hKl hO hH n0 n0 n0) zpKg_ok ?_
    rintro _ _ ⟨rfl, I32, gl34, rfl, hK33, hl35⟩
    show ez_P _ _ _ _ _ _ 118 [(3, .int (nI (n0 + 1))), (0, .ref 105), (1, .int 3), (2, .int (nI n0))] [] (n, sl, kd, I32, L, Rf) _
    have hK33 : zK n kd I0 L0 R0 gl34 I32 L Rf T G Bf w := hK33
    have h636 : gl34 106 = ga 106 := hl35.2.2.2 106 (by decide)
    refine ez_aload_n (i := 0) dX3_leastThatWins_118 rfl rfl ?_
    refine ez_callV (M1 := mX3_winningPiece) (rest := []) dX3_leastThatWins_119 mlX3_23 mvX3_winningPiece rfl (hF.lt (by decide)) (hF.kc (by decide) rfl) (Nat.le_of_ble_eq_true rfl) rfl (k_win (T := T) (I := I32) (L := L) (d + 4) hK33 hO hH (ca := n0) (cb := n0) (cc := n0) (by omega) ⟨hl35.1, hl35.2.1, hl35.2.2.1⟩) eb_rok ?_
    rintro _ _ ⟨rfl, rfl⟩
    rw [h636, zwin_cg (R := 3) (by omega) (by omega) (by omega) (by omega) (fun x1 y1 z1 q1 q2 q3 q4 q5 => hex x1 y1 z1 q1 q2 q3 q4 (Or.inl (by unfold zl3 at q5; omega)))]
    show ez_P _ _ _ _ _ _ 122 [(3, .int (nI (n0 + 1))), (0, .ref 105), (1, .int 3), (2, .int (nI n0))] (.int (zcr3 (zwin zwt1 n0 n0 n0)) :: []) (n, sl, kd, I32, L, Rf) _
    refine ez_iret dX3_leastThatWins_122 rfl rfl ?_
    rw [show zck 3 n0 = zcr3 (zwin zwt1 n0 n0 n0) from by unfold zck; rw [if_neg (by decide), if_neg (by decide), ← (zwin_k (by omega) (by omega) (by omega)).1]]
    exact ⟨rfl, _, _, rfl, hK33, trivial⟩
theorem c_cake_3 {n : Nat} {sl : Nat × Nat} {kd : Nat → Nat × Nat} {I : Nat → Nat → Int32} {L : Nat → Nat → Int64} {Rf : Nat → Nat → Option Nat} (d : Nat) {T : zT} {H : Nat} (hC : zC n kd I L Rf T) (hO : zOk H T) (hH : H ≤ 1000000000) {n0 : Nat} (hn1 : 1 ≤ n0) (hn : n0 ≤ 7) : zq mX10_cake (d + 60) [.ref 0, .int 3, .int (nI n0)] (n, sl, kd, I, L, Rf) (zpC n sl kd I L Rf (some (.int (s_cake T 3 (nI n0)).1)) (s_cake T 3 (nI n0)).2) := by
  have hF := hC.F; have hc7 := hO.c
  have hK0 : zK n kd I L Rf I I L Rf T none none false := zK.start hC
  have hsp : s_cake T 3 (nI n0) = (zck 3 n0, T) := (by unfold s_cake; rw [if_pos ⟨by decide, z_n19 (N := 7) hn1 hn (by decide)⟩, nI_clamp (by omega), show (3 : Int32).toNatClampNeg = 3 from by decide])
  rw [hsp]
  intro f B
  refine ez_meth pn_X.2.2.2.2.2.2.2.2.2.2.1 (Nat.le_of_ble_eq_true rfl) ?_
  show ez_P _ _ _ _ _ _ 0 [(0, .ref 0), (1, .int 3), (2, .int (nI n0))] [] (n, sl, kd, I, L, Rf) _
  refine ez_iload_n (i := 1) dX10_cake_0 rfl rfl ?_
  refine ez_iconst (v := 1) dX10_cake_1 (by decide) ?_
  refine ez_iconst (v := 3) dX10_cake_2 (by decide) ?_
  refine ez_callS (M1 := mX10_within) (rest := []) dX10_cake_3 mlX10_158 msX10_within rfl (Nat.le_of_ble_eq_true rfl) rfl (zq_b1 (by decide) (zq_b (q_X10_within (d + 59) 3 1 3) (n, sl, kd, I, L, Rf))) eb_rok ?_
  rintro _ _ ⟨rfl, rfl⟩
  show ez_P _ _ _ _ _ _ 6 [(0, .ref 0), (1, .int 3), (2, .int (nI n0))] (.int 1 :: []) _ _
  refine ez_if_eq (tgt := 19) dX10_cake_6 (by decide) (fun c1 => absurd c1 (by decide)) (fun c1 => ?_)
  refine ez_iload_n (i := 2) dX10_cake_9 rfl rfl ?_
  refine ez_iconst (v := 1) dX10_cake_10 (by decide) ?_
  refine ez_bipush (v := 7) dX10_cake_11 (by decide) ?_
  refine ez_callS (M1 := mX10_within) (rest := []) dX10_cake_13 mlX10_158 msX10_within rfl (Nat.le_of_ble_eq_true rfl) rfl (zq_b1 (z_n19 (N := 7) hn1 hn (by decide)) (zq_b (q_X10_within (d + 59) (nI n0) 1 7) (n, sl, kd, I, L, Rf))) eb_rok ?_
  rintro _ _ ⟨rfl, rfl⟩
  show ez_P _ _ _ _ _ _ 16 [(0, .ref 0), (1, .int 3), (2, .int (nI n0))] (.int 1 :: []) _ _
  refine ez_if_ne (tgt := 21) dX10_cake_16 (by decide) (fun c2 => ?_) (fun c2 => absurd (by decide) c2)
  refine ez_aload_n (i := 0) dX10_cake_21 rfl rfl ?_
  refine ez_getR dX10_cake_22 flX10_87 (hF.lt (by decide)) (hF.kc (by decide) rfl) (hF.pt 100 rfl) ?_
  refine ez_iload_n (i := 1) dX10_cake_25 rfl rfl ?_
  refine ez_iload_n (i := 2) dX10_cake_26 rfl rfl ?_
  refine ez_callV (M1 := mX3_leastThatWins) (rest := []) dX10_cake_27 mlX10_397 mvX3_leastThatWins rfl (hF.lt (by decide)) (hF.kc (by decide) rfl) (Nat.le_of_ble_eq_true rfl) rfl (k_ltw_3 (T := T) (I := I) (L := L) (d + 29) hK0 hO hH hn1 hn) zpKg_ok ?_
  rintro _ _ ⟨rfl, I3, gz, rfl, hK4, _⟩
  show ez_P _ _ _ _ _ _ 30 [(0, .ref 0), (1, .int 3), (2, .int (nI n0))] (.int (zck 3 n0) :: []) (n, sl, kd, I3, L, Rf) _
  have hK4 : zK n kd I L Rf gz I3 L Rf T none none false := hK4
  refine ez_iret dX10_cake_30 rfl rfl ?_
  exact hK4.end
theorem c_cake_no {n : Nat} {sl : Nat × Nat} {kd : Nat → Nat × Nat} {I : Nat → Nat → Int32} {L : Nat → Nat → Int64} {Rf : Nat → Nat → Option Nat} (d : Nat) {T : zT} {H : Nat} (hC : zC n kd I L Rf T) (hO : zOk H T) (hH : H ≤ 1000000000) {a b : Int32} (ha : ¬ (1 ≤ a ∧ a ≤ 3)) : zq mX10_cake (d + 60) [.ref 0, .int a, .int b] (n, sl, kd, I, L, Rf) (zpC n sl kd I L Rf (some (.int (s_cake T a b).1)) (s_cake T a b).2) := by
  have hF := hC.F; have hc7 := hO.c
  have hK0 : zK n kd I L Rf I I L Rf T none none false := zK.start hC
  have hsp : s_cake T a b = ((-1), T) := (by unfold s_cake; rw [if_neg (fun g => ha g.1)])
  rw [hsp]
  intro f B
  refine ez_meth pn_X.2.2.2.2.2.2.2.2.2.2.1 (Nat.le_of_ble_eq_true rfl) ?_
  show ez_P _ _ _ _ _ _ 0 [(0, .ref 0), (1, .int a), (2, .int b)] [] (n, sl, kd, I, L, Rf) _
  refine ez_iload_n (i := 1) dX10_cake_0 rfl rfl ?_
  refine ez_iconst (v := 1) dX10_cake_1 (by decide) ?_
  refine ez_iconst (v := 3) dX10_cake_2 (by decide) ?_
  refine ez_callS (M1 := mX10_within) (rest := []) dX10_cake_3 mlX10_158 msX10_within rfl (Nat.le_of_ble_eq_true rfl) rfl (zq_b0 ha (zq_b (q_X10_within (d + 59) a 1 3) (n, sl, kd, I, L, Rf))) eb_rok ?_
  rintro _ _ ⟨rfl, rfl⟩
  show ez_P _ _ _ _ _ _ 6 [(0, .ref 0), (1, .int a), (2, .int b)] (.int 0 :: []) _ _
  refine ez_if_eq (tgt := 19) dX10_cake_6 (by decide) (fun c1 => ?_) (fun c1 => absurd (by decide) c1)
  refine ez_iconst (v := (-1)) dX10_cake_19 (by decide) ?_
  refine ez_iret dX10_cake_20 rfl rfl ?_
  exact hK0.end
theorem c_cake_nx {n : Nat} {sl : Nat × Nat} {kd : Nat → Nat × Nat} {I : Nat → Nat → Int32} {L : Nat → Nat → Int64} {Rf : Nat → Nat → Option Nat} (d : Nat) {T : zT} {H : Nat} (hC : zC n kd I L Rf T) (hO : zOk H T) (hH : H ≤ 1000000000) {a b : Int32} (ha : 1 ≤ a ∧ a ≤ 3) (hb : ¬ (1 ≤ b ∧ b ≤ 7)) : zq mX10_cake (d + 60) [.ref 0, .int a, .int b] (n, sl, kd, I, L, Rf) (zpC n sl kd I L Rf (some (.int (s_cake T a b).1)) (s_cake T a b).2) := by
  have hF := hC.F; have hc7 := hO.c
  have hK0 : zK n kd I L Rf I I L Rf T none none false := zK.start hC
  have hsp : s_cake T a b = ((-1), T) := (by unfold s_cake; rw [if_neg (fun g => hb g.2)])
  rw [hsp]
  intro f B
  refine ez_meth pn_X.2.2.2.2.2.2.2.2.2.2.1 (Nat.le_of_ble_eq_true rfl) ?_
  show ez_P _ _ _ _ _ _ 0 [(0, .ref 0), (1, .int a), (2, .int b)] [] (n, sl, kd, I, L, Rf) _
  refine ez_iload_n (i := 1) dX10_cake_0 rfl rfl ?_
  refine ez_iconst (v := 1) dX10_cake_1 (by decide) ?_
  refine ez_iconst (v := 3) dX10_cake_2 (by decide) ?_
  refine ez_callS (M1 := mX10_within) (rest := []) dX10_cake_3 mlX10_158 msX10_within rfl (Nat.le_of_ble_eq_true rfl) rfl (zq_b1 ha (zq_b (q_X10_within (d + 59) a 1 3) (n, sl, kd, I, L, Rf))) eb_rok ?_
  rintro _ _ ⟨rfl, rfl⟩
  show ez_P _ _ _ _ _ _ 6 [(0, .ref 0), (1, .int a), (2, .int b)] (.int 1 :: []) _ _
  refine ez_if_eq (tgt := 19) dX10_cake_6 (by decide) (fun c1 => absurd c1 (by decide)) (fun c1 => ?_)
  refine ez_iload_n (i := 2) dX10_cake_9 rfl rfl ?_
  refine ez_iconst (v := 1) dX10_cake_10 (by decide) ?_
  refine ez_bipush (v := 7) dX10_cake_11 (by decide) ?_
  refine ez_callS (M1 := mX10_within) (rest := []) dX10_cake_13 mlX10_158 msX10_within rfl (Nat.le_of_ble_eq_true rfl) rfl (zq_b0 hb (zq_b (q_X10_within (d + 59) b 1 7) (n, sl, kd, I, L, Rf))) eb_rok ?_
  rintro _ _ ⟨rfl, rfl⟩
  show ez_P _ _ _ _ _ _ 16 [(0, .ref 0), (1, .int a), (2, .int b)] (.int 0 :: []) _ _
  refine ez_if_ne (tgt := 21) dX10_cake_16 (by decide) (fun c2 => absurd c2 (by decide)) (fun c2 => ?_)
  refine ez_iconst (v := (-1)) dX10_cake_19 (by decide) ?_
  refine ez_iret dX10_cake_20 rfl rfl ?_
  exact hK0.end
theorem c_cake {n : Nat} {sl : Nat × Nat} {kd : Nat → Nat × Nat} {I : Nat → Nat → Int32} {L : Nat → Nat → Int64} {Rf : Nat → Nat → Option Nat} (d : Nat) {T : zT} {H : Nat} (hC : zC n kd I L Rf T) (hO : zOk H T) (hH : H ≤ 1000000000) (a b : Int32) : zq mX10_cake (d + 60) [.ref 0, .int a, .int b] (n, sl, kd, I, L, Rf) (zpC n sl kd I L Rf (some (.int (s_cake T a b).1)) (s_cake T a b).2) := by
  by_cases ha : 1 ≤ a ∧ a ≤ 3
  · by_cases hb : 1 ≤ b ∧ b ≤ 7
    · obtain ⟨p, h1, h2, rfl⟩ := z_pk1 (lo := 1) (N := 3) ha (by decide) (by decide)
      obtain ⟨q, h3, h4, rfl⟩ := z_pk1 (lo := 1) (N := 7) hb (by decide) (by decide)
      rcases (show p = 1 ∨ p = 2 ∨ p = 3 by omega) with rfl | rfl | rfl
      · exact c_cake_1 d hC hO hH h3 h4
      · exact c_cake_2 d hC hO hH h3 h4
      · exact c_cake_3 d hC hO hH h3 h4
    · exact c_cake_nx d hC hO hH ha hb
  · exact c_cake_no d hC hO hH ha
