/-! cake, on the reference and on the class -/
def zlose : List Nat := [64, 136, 145, 201, 208, 274, 280, 346, 352, 363, 411, 418, 424, 483, 490, 496, 508]
/-- whether what is left loses -/
def zct1 (p : Nat) : Int32 := if zlose.contains p = true then 1 else 0
def zp0 (t : Nat → Int32) (b c i : Nat) : Option Nat := if t (64 * i + 8 * min b i + min c i) = 0 then none else some i
def zp1 (t : Nat → Int32) (a b c i : Nat) : Option Nat := if t (64 * a + 8 * min b i + min c i) = 0 then none else some (10 + i)
def zp2 (t : Nat → Int32) (a b c i : Nat) : Option Nat := if t (64 * a + 8 * b + min c i) = 0 then none else some (20 + i)
def zpie (t : Nat → Int32) (a b c : Nat) : Option Nat := match zfb (zp0 t b c) (a - 1) 1 with
  | some q => some q
  | none => match zfb (zp1 t a b c) b 0 with
    | some q => some q
    | none => zfb (zp2 t a b c) c 0
/-- ahead of x, y, z -/
def zl3 (x' y' z' x y z : Nat) : Prop := x' < x ∨ x' = x ∧ (y' < y ∨ y' = y ∧ z' < z)
def ztk (t : Nat → Int32) (x y z : Nat) : Prop := ∀ x' y' z', 1 ≤ x' → y' ≤ x' → z' ≤ y' → zl3 x' y' z' x y z → t (64 * x' + 8 * y' + z') = zct1 (64 * x' + 8 * y' + z')
theorem zpie_cg {t : Nat → Int32} {a b c : Nat} (hb : b ≤ a) (hc : c ≤ b) (h : ztk t a b c) : zpie t a b c = zpie zct1 a b c := by
  unfold zpie
  rw [zfb_cg (f := zp0 t b c) (g := zp0 zct1 b c) (a - 1) 1 (fun k h1 h2 => by unfold zp0; rw [h k (min b k) (min c k) h1 (by omega) (by omega) (Or.inl (by omega))]),
    zfb_cg (f := zp1 t a b c) (g := zp1 zct1 a b c) b 0 (fun k h1 h2 => by unfold zp1; rw [h a (min b k) (min c k) (by omega) (by omega) (by omega) (Or.inr ⟨rfl, Or.inl (by omega)⟩)]),
    zfb_cg (f := zp2 t a b c) (g := zp2 zct1 a b c) c 0 (fun k h1 h2 => by unfold zp2; rw [h a b (min c k) (by omega) (by omega) (by omega) (Or.inr ⟨rfl, Or.inr ⟨rfl, by omega⟩⟩)])]
theorem zpie_ok : ((List.range 8).all fun x => (List.range 8).all fun y => (List.range 8).all fun z => if 1 ≤ x ∧ y ≤ x ∧ z ≤ y then (match zpie zct1 x y z with
  | none => zct1 (64 * x + 8 * y + z) == 1
  | some _ => zct1 (64 * x + 8 * y + z) == 0) else true) = true := by decide +kernel
theorem zpie_k {x y z : Nat} (hx : x < 8) (h1 : 1 ≤ x) (h2 : y ≤ x) (h3 : z ≤ y) : (zpie zct1 x y z = none → zct1 (64 * x + 8 * y + z) = 1) ∧ (¬ zpie zct1 x y z = none → zct1 (64 * x + 8 * y + z) = 0) := by
  have h := List.all_eq_true.mp (List.all_eq_true.mp (List.all_eq_true.mp zpie_ok x (List.mem_range.mpr hx)) y (List.mem_range.mpr (by omega))) z (List.mem_range.mpr (by omega))
  rw [if_pos ⟨h1, h2, h3⟩] at h
  cases e : zpie zct1 x y z with
  | none => rw [e] at h; exact ⟨fun _ => eq_of_beq h, fun g => absurd rfl g⟩
  | some q => rw [e] at h; exact ⟨fun g => (by cases g), fun _ => eq_of_beq h⟩
def zcr3 (r : Option Nat) : Int32 := match r with
  | some q => nI q
  | none => -2
def zck (a b : Nat) : Int32 := zcr3 (zpie zct1 b (if a ≤ 1 then 0 else b) (if a ≤ 2 then 0 else b))
def s_cake (T : zT) (a b : Int32) : Int32 × zT := if (1 ≤ a ∧ a ≤ 3) ∧ (1 ≤ b ∧ b ≤ 7) then (zck a.toNatClampNeg b.toNatClampNeg, T) else (-1, T)
theorem zfb_lt {f : Nat → Option Nat} {M : Nat} (h : ∀ i q, f i = some q → q ≤ M + i) : ∀ n k q, zfb f n k = some q → q < M + k + n := by
  intro n
  induction n with
  | zero => intro k q h; cases h
  | succ n ih =>
    intro k q hq
    cases e : f k with
    | some u => rw [zfb_s e] at hq; cases hq; have := h k q e; omega
    | none => rw [zfb_n e] at hq; have := ih (k + 1) q hq; omega
theorem zpie_lt {t : Nat → Int32} {a b c q : Nat} (h : zpie t a b c = some q) (h7 : a ≤ 7 ∧ b ≤ 7 ∧ c ≤ 7) : q < 100 := by
  unfold zpie at h
  cases e : zfb (zp0 t b c) (a - 1) 1 with
  | some u => rw [e] at h; cases h; have := zfb_lt (M := 0) (fun i q h => by unfold zp0 at h; split at h; cases h; cases h; omega) _ _ _ e; omega
  | none =>
    rw [e] at h
    cases e1 : zfb (zp1 t a b c) b 0 with
    | some u => rw [e1] at h; cases h; have := zfb_lt (M := 10) (fun i q h => by unfold zp1 at h; split at h; cases h; cases h; omega) _ _ _ e1; omega
    | none => rw [e1] at h; have := zfb_lt (M := 20) (fun i q h => by unfold zp2 at h; split at h; cases h; cases h; omega) _ _ _ h; omega
theorem zon_no {r : Option Nat} (h : ∀ t, r = some t → t < 100) : zon r = -1 ↔ r = none := by
  cases r with
  | none => exact ⟨fun _ => rfl, fun _ => rfl⟩
  | some t => exact ⟨fun e => absurd e (nI_nm1 t (by have := h t rfl; omega)), fun e => by cases e⟩
theorem z_mnn {a b : Nat} (ha : a < 2147483648) (hb : b < 2147483648) : (if nI b < nI a then nI b else nI a) = nI (min a b) := z_mn_n ha hb
theorem y_cakeOf {n : Nat} {sl : Nat × Nat} {kd : Nat → Nat × Nat} {I : Nat → Nat → Int32} {L : Nat → Nat → Int64} {Rf : Nat → Nat → Option Nat} (d : Nat) (a b c : Nat)  : zq mX11_cakeOf d [.int (nI a), .int (nI b), .int (nI c)] (n, sl, kd, I, L, Rf) (eb_r (nI (64 * a + 8 * b + c)) (n, sl, kd, I, L, Rf)) := by
  intro f B
  refine ez_meth pn_X.2.2.2.2.2.2.2.2.2.2.2 (Nat.le_of_ble_eq_true rfl) ?_
  show ez_P _ _ _ _ _ _ 0 [(0, .int (nI a)), (1, .int (nI b)), (2, .int (nI c))] [] (n, sl, kd, I, L, Rf) _
  refine ez_bipush (v := 64) dX11_cakeOf_0 (by decide) ?_
  refine ez_iload_n (i := 0) dX11_cakeOf_2 rfl rfl ?_
  refine ez_imul dX11_cakeOf_3 ?_
  refine ez_topE (y := nI (64 * a)) (nI_mul _ _) ?_
  refine ez_bipush (v := 8) dX11_cakeOf_4 (by decide) ?_
  refine ez_iload_n (i := 1) dX11_cakeOf_6 rfl rfl ?_
  refine ez_imul dX11_cakeOf_7 ?_
  refine ez_topE (y := nI (8 * b)) (nI_mul _ _) ?_
  refine ez_iadd dX11_cakeOf_8 ?_
  refine ez_topE (y := nI ((64 * a) + (8 * b))) (nI_add _ _) ?_
  refine ez_iload_n (i := 2) dX11_cakeOf_9 rfl rfl ?_
  refine ez_iadd dX11_cakeOf_10 ?_
  refine ez_topE (y := nI (((64 * a) + (8 * b)) + c)) (nI_add _ _) ?_
  refine ez_iret dX11_cakeOf_11 rfl rfl ?_
  exact ⟨rfl, rfl⟩
theorem y_X11_pieceOf {n : Nat} {sl : Nat × Nat} {kd : Nat → Nat × Nat} {I : Nat → Nat → Int32} {L : Nat → Nat → Int64} {Rf : Nat → Nat → Option Nat} (d : Nat) {T : zT} {H : Nat} {I0 g : Nat → Nat → Int32} {L0 : Nat → Nat → Int64} {x : Nat → Int32} {o : Int32} (hQ : zQ n kd I0 L0 Rf g I L T x o) (hO : zOk H T) (hH : H ≤ 1000000000) {ca cb cc : Nat} (h7 : ca ≤ 7 ∧ cb ≤ 7 ∧ cc ≤ 7) (ha1 : 1 ≤ ca)  : zq mX11_pieceOf (d + 5) [.ref 112, .int (nI ca), .int (nI cb), .int (nI cc)] (n, sl, kd, I, L, Rf) (fun r τ => r = some (.int (zon (zpie (g 132) ca cb cc))) ∧ ∃ I1 g1, τ = (n, sl, kd, I1, L, Rf) ∧ zQ n kd I0 L0 Rf g1 I1 L T x o ∧ g1 132 = g 132) := by
  have hF := hQ.M.F; have hc7 := hO.c
  intro f B
  refine ez_meth pn_X.2.2.2.2.2.2.2.2.2.2.2 (Nat.le_of_ble_eq_true rfl) ?_
  show ez_P _ _ _ _ _ _ 0 [(0, .ref 112), (1, .int (nI ca)), (2, .int (nI cb)), (3, .int (nI cc))] [] (n, sl, kd, I, L, Rf) _
  refine ez_aload_n (i := 0) dX11_pieceOf_0 rfl rfl ?_
  refine ez_getR dX11_pieceOf_1 flX11_77 (hF.lt (by decide)) (hF.kc (by decide) rfl) (hF.pt 126 rfl) ?_
  refine ez_iconst (v := 0) dX11_pieceOf_4 (by decide) ?_
  refine ez_iload_n (i := 1) dX11_pieceOf_5 rfl rfl ?_
  refine ez_isN (k := 0) dX11_pieceOf_6 (hF.lt (by decide)) (hF.lx (by decide)) (hF.ka (by decide) rfl) (by decide) (by decide) ?_
  refine ez_nmI (fun I1 hI1 => ?_)
  have hQ2 : zQ n kd I0 L0 Rf (z_set g 133 0 (nI ca)) I1 L T x o := by rw [hI1]; exact hQ.gset (by unfold zgc; omega)
  refine ez_aload_n (i := 0) dX11_pieceOf_7 rfl rfl ?_
  refine ez_getR dX11_pieceOf_8 flX11_77 (hF.lt (by decide)) (hF.kc (by decide) rfl) (hF.pt 126 rfl) ?_
  refine ez_iconst (v := 1) dX11_pieceOf_11 (by decide) ?_
  refine ez_iload_n (i := 2) dX11_pieceOf_12 rfl rfl ?_
  refine ez_isN (k := 1) dX11_pieceOf_13 (hF.lt (by decide)) (hF.lx (by decide)) (hF.ka (by decide) rfl) (by decide) (by decide) ?_
  refine ez_nmI (fun I3 hI3 => ?_)
  have hQ4 : zQ n kd I0 L0 Rf (z_set (z_set g 133 0 (nI ca)) 133 1 (nI cb)) I3 L T x o := by rw [hI3]; exact hQ2.gset (by unfold zgc; omega)
  refine ez_aload_n (i := 0) dX11_pieceOf_14 rfl rfl ?_
  refine ez_getR dX11_pieceOf_15 flX11_77 (hF.lt (by decide)) (hF.kc (by decide) rfl) (hF.pt 126 rfl) ?_
  refine ez_iconst (v := 2) dX11_pieceOf_18 (by decide) ?_
  refine ez_iload_n (i := 3) dX11_pieceOf_19 rfl rfl ?_
  refine ez_isN (k := 2) dX11_pieceOf_20 (hF.lt (by decide)) (hF.lx (by decide)) (hF.ka (by decide) rfl) (by decide) (by decide) ?_
  refine ez_nmI (fun I5 hI5 => ?_)
  have hQ6 : zQ n kd I0 L0 Rf (z_set (z_set (z_set g 133 0 (nI ca)) 133 1 (nI cb)) 133 2 (nI cc)) I5 L T x o := by rw [hI5]; exact hQ4.gset (by unfold zgc; omega)
  obtain ⟨g3, hg3⟩ : ∃ z, z = z_set (z_set (z_set g 133 0 (nI ca)) 133 1 (nI cb)) 133 2 (nI cc) := ⟨_, rfl⟩
  have hQ3 : zQ n kd I0 L0 Rf g3 I5 L T x o := by rw [hg3]; exact hQ6
  have hl0 : g3 133 0 = nI ca := by rw [hg3, z_set_nk (by decide), z_set_nk (by decide), z_set_at]
  have hl1 : g3 133 1 = nI cb := by rw [hg3, z_set_nk (by decide), z_set_at]
  have hl2 : g3 133 2 = nI cc := by rw [hg3, z_set_at]
  have h132 : g3 132 = g 132 := by rw [hg3, z_set_ne (by decide), z_set_ne (by decide), z_set_ne (by decide)]
  refine ez_iconst (v := 0) dX11_pieceOf_21 (by decide) ?_
  refine ez_istore (l' := [(4, .int 0), (0, .ref 112), (1, .int (nI ca)), (2, .int (nI cb)), (3, .int (nI cc))]) dX11_pieceOf_22 (by decide) rfl ?_
  refine ez_iload (i := 4) dX11_pieceOf_24 rfl ?_
  refine ez_iconst (v := 3) dX11_pieceOf_26 (by decide) ?_
  refine ez_icmp_ge (tgt := 131) dX11_pieceOf_27 (by decide) (fun c7 => absurd c7 (by decide)) (fun c7 => ?_)
  refine ez_iload (i := 4) dX11_pieceOf_30 rfl ?_
  refine ez_if_ne (tgt := 39) dX11_pieceOf_32 (by decide) (fun c8 => absurd c8 (by decide)) (fun c8 => ?_)
  refine ez_iconst (v := 1) dX11_pieceOf_35 (by decide) ?_
  refine ez_goto (tgt := 40) dX11_pieceOf_36 (by decide) ?_
  refine ez_istore (l' := [(5, .int 1), (4, .int 0), (0, .ref 112), (1, .int (nI ca)), (2, .int (nI cb)), (3, .int (nI cc))]) dX11_pieceOf_40 (by decide) rfl ?_
  refine ez_eq (l2 := [(5, .int (nI (1 + 0))), (4, .int 0), (0, .ref 112), (1, .int (nI ca)), (2, .int (nI cb)), (3, .int (nI cc))]) (σ2 := (n, sl, kd, I5, L, Rf)) rfl rfl rfl rfl ?_
  refine ez_for (ca - 1) (fun j (a : Unit) => ([(5, .int (nI (1 + j))), (4, .int 0), (0, .ref 112), (1, .int (nI ca)), (2, .int (nI cb)), (3, .int (nI cc))], (n, sl, kd, I5, L, Rf))) (fun j a => zfb (zp0 (g 132) cb cc) (ca - (1 + j)) (1 + j) = zfb (zp0 (g 132) cb cc) (ca - 1) 1) ?_ ?_ (ca - 1) 0 () (by omega) rfl
  · rintro j _ hk hin ih
    have hin : zfb (zp0 (g 132) cb cc) (ca - (1 + j)) (1 + j) = zfb (zp0 (g 132) cb cc) (ca - 1) 1 := hin
    show ez_P _ _ _ _ _ _ 42 [(5, .int (nI (1 + j))), (4, .int 0), (0, .ref 112), (1, .int (nI ca)), (2, .int (nI cb)), (3, .int (nI cc))] [] (n, sl, kd, I5, L, Rf) _
    refine ez_iload (i := 5) dX11_pieceOf_42 rfl ?_
    refine ez_aload_n (i := 0) dX11_pieceOf_44 rfl rfl ?_
    refine ez_getR dX11_pieceOf_45 flX11_77 (hF.lt (by decide)) (hF.kc (by decide) rfl) (hF.pt 126 rfl) ?_
    refine ez_iload (i := 4) dX11_pieceOf_48 rfl ?_
    refine ez_iaN (k := 0) dX11_pieceOf_50 (hF.lt (by decide)) (hF.ka (by decide) rfl) (by decide) (by decide) ?_
    refine ez_topE (y := nI ca) ((congrFun (hQ3.g.1 133 (by unfold zgc; omega)) _).trans hl0) ?_
    refine ez_icmp_ge (tgt := 125) dX11_pieceOf_51 (by decide) (fun c9 => absurd c9 (nI_ge (by omega) (by omega))) (fun c9 => ?_)
    refine ez_iload (i := 4) dX11_pieceOf_54 rfl ?_
    refine ez_if_ne (tgt := 64) dX11_pieceOf_56 (by decide) (fun c10 => absurd c10 (by decide)) (fun c10 => ?_)
    refine ez_iload (i := 5) dX11_pieceOf_59 rfl ?_
    refine ez_goto (tgt := 65) dX11_pieceOf_61 (by decide) ?_
    refine ez_istore (l' := [(6, .int (nI (1 + j))), (5, .int (nI (1 + j))), (4, .int 0), (0, .ref 112), (1, .int (nI ca)), (2, .int (nI cb)), (3, .int (nI cc))]) dX11_pieceOf_65 (by decide) rfl ?_
    refine ez_iload (i := 4) dX11_pieceOf_67 rfl ?_
    refine ez_iconst (v := 1) dX11_pieceOf_69 (by decide) ?_
    refine ez_icmp_gt (tgt := 82) dX11_pieceOf_70 (by decide) (fun c11 => absurd c11 (by decide)) (fun c11 => ?_)
    refine ez_iload_n (i := 2) dX11_pieceOf_73 rfl rfl ?_
    refine ez_iload (i := 5) dX11_pieceOf_74 rfl ?_
    refine ez_min dX11_pieceOf_76 xmX11_197 (Nat.le_of_ble_eq_true rfl) ?_
    refine ez_topE (y := nI (min cb (1 + j))) (z_mnn (by omega) (by omega)) ?_
    refine ez_goto (tgt := 83) dX11_pieceOf_79 (by decide) ?_
    refine ez_istore (l' := [(7, .int (nI (min cb (1 + j)))), (6, .int (nI (1 + j))), (5, .int (nI (1 + j))), (4, .int 0), (0, .ref 112), (1, .int (nI ca)), (2, .int (nI cb)), (3, .int (nI cc))]) dX11_pieceOf_83 (by decide) rfl ?_
    refine ez_iload_n (i := 3) dX11_pieceOf_85 rfl rfl ?_
    refine ez_iload (i := 5) dX11_pieceOf_86 rfl ?_
    refine ez_min dX11_pieceOf_88 xmX11_197 (Nat.le_of_ble_eq_true rfl) ?_
    refine ez_topE (y := nI (min cc (1 + j))) (z_mnn (by omega) (by omega)) ?_
    refine ez_istore (l' := [(8, .int (nI (min cc (1 + j)))), (7, .int (nI (min cb (1 + j)))), (6, .int (nI (1 + j))), (5, .int (nI (1 + j))), (4, .int 0), (0, .ref 112), (1, .int (nI ca)), (2, .int (nI cb)), (3, .int (nI cc))]) dX11_pieceOf_91 (by decide) rfl ?_
    refine ez_aload_n (i := 0) dX11_pieceOf_93 rfl rfl ?_
    refine ez_getR dX11_pieceOf_94 flX11_73 (hF.lt (by decide)) (hF.kc (by decide) rfl) (hF.pt 125 rfl) ?_
    refine ez_iload (i := 6) dX11_pieceOf_97 rfl ?_
    refine ez_iload (i := 7) dX11_pieceOf_99 rfl ?_
    refine ez_iload (i := 8) dX11_pieceOf_101 rfl ?_
    refine ez_callS (M1 := mX11_cakeOf) (rest := [.ref 132]) dX11_pieceOf_103 mlX11_361 msX11_cakeOf rfl (Nat.le_of_ble_eq_true rfl) rfl (y_cakeOf (I := I5) (L := L) (d + 4) (1 + j) (min cb (1 + j)) (min cc (1 + j))) eb_rok ?_
    rintro _ _ ⟨rfl, rfl⟩
    show ez_P _ _ _ _ _ _ 106 [(8, .int (nI (min cc (1 + j)))), (7, .int (nI (min cb (1 + j)))), (6, .int (nI (1 + j))), (5, .int (nI (1 + j))), (4, .int 0), (0, .ref 112), (1, .int (nI ca)), (2, .int (nI cb)), (3, .int (nI cc))] (.int (nI (64 * (1 + j) + 8 * (min cb (1 + j)) + (min cc (1 + j)))) :: [.ref 132]) _ _
    refine ez_zaN (k := (64 * (1 + j) + 8 * (min cb (1 + j)) + (min cc (1 + j)))) dX11_pieceOf_106 (hF.lt (by decide)) (hF.ka (by decide) rfl) (by omega) (by decide) ?_
    refine ez_topE (y := g 132 (64 * (1 + j) + 8 * (min cb (1 + j)) + (min cc (1 + j)))) ((congrFun (hQ3.g.1 132 (by unfold zgc; omega)) _).trans (congrFun h132 _)) ?_
    refine ez_if_eq (tgt := 119) dX11_pieceOf_107 (by decide) (fun c12 => ?_) (fun c12 => ?_)
    · skip
      refine ez_iinc (v := (nI (1 + j + 1))) (l' := [(5, .int ((nI (1 + j + 1)))), (8, .int (nI (min cc (1 + j)))), (7, .int (nI (min cb (1 + j)))), (6, .int (nI (1 + j))), (4, .int 0), (0, .ref 112), (1, .int (nI ca)), (2, .int (nI cb)), (3, .int (nI cc))]) dX11_pieceOf_119 rfl (nI_1 _) (by decide) rfl ?_
      refine ez_goto (tgt := 42) dX11_pieceOf_122 (by decide) ?_
      refine ez_sub (l' := [(5, .int ((nI (1 + j + 1)))), (4, .int 0), (0, .ref 112), (1, .int (nI ca)), (2, .int (nI cb)), (3, .int (nI cc))]) [0, 4, 5, 6, 7, 8] rfl ?_
      exact ez_eq (l2 := [(5, .int (nI (1 + (j + 1)))), (4, .int 0), (0, .ref 112), (1, .int (nI ca)), (2, .int (nI cb)), (3, .int (nI cc))]) rfl rfl rfl rfl (ih () (zfb_step (k := (1 + j)) hin (by omega) (by unfold zp0; exact if_pos c12)))
    · skip
      refine ez_bipush (v := 10) dX11_pieceOf_110 (by decide) ?_
      refine ez_iload (i := 4) dX11_pieceOf_112 rfl ?_
      refine ez_imul dX11_pieceOf_114 ?_
      refine ez_topE (y := 0) (by decide) ?_
      refine ez_iload (i := 5) dX11_pieceOf_115 rfl ?_
      refine ez_iadd dX11_pieceOf_117 ?_
      refine ez_topE (y := nI (0 + (1 + j))) (nI_add _ _) ?_
      refine ez_iret dX11_pieceOf_118 rfl rfl ?_
      rw [show zpie (g 132) ca cb cc = some (1 + j) from by unfold zpie; rw [zfb_hit (k := (1 + j)) hin (by omega) (x := (1 + j)) (by unfold zp0; exact if_neg c12)]]
      exact ⟨congrArg (fun z => some (Value.int (nI z))) (by omega), _, _, rfl, hQ3, h132⟩
  · rintro _ hin
    have hin : zfb (zp0 (g 132) cb cc) (ca - (1 + (ca - 1))) (1 + (ca - 1)) = zfb (zp0 (g 132) cb cc) (ca - 1) 1 := hin
    show ez_P _ _ _ _ _ _ 42 [(5, .int (nI (1 + (ca - 1)))), (4, .int 0), (0, .ref 112), (1, .int (nI ca)), (2, .int (nI cb)), (3, .int (nI cc))] [] (n, sl, kd, I5, L, Rf) _
    refine ez_iload (i := 5) dX11_pieceOf_42 rfl ?_
    refine ez_aload_n (i := 0) dX11_pieceOf_44 rfl rfl ?_
    refine ez_getR dX11_pieceOf_45 flX11_77 (hF.lt (by decide)) (hF.kc (by decide) rfl) (hF.pt 126 rfl) ?_
    refine ez_iload (i := 4) dX11_pieceOf_48 rfl ?_
    refine ez_iaN (k := 0) dX11_pieceOf_50 (hF.lt (by decide)) (hF.ka (by decide) rfl) (by decide) (by decide) ?_
    refine ez_topE (y := nI ca) ((congrFun (hQ3.g.1 133 (by unfold zgc; omega)) _).trans hl0) ?_
    refine ez_icmp_ge (tgt := 125) dX11_pieceOf_51 (by decide) (fun c13 => ?_) (fun c13 => absurd (nI_le (by omega) (by omega)) c13)
    refine ez_iinc (v := 1) (l' := [(4, .int 1), (5, .int (nI (1 + (ca - 1)))), (0, .ref 112), (1, .int (nI ca)), (2, .int (nI cb)), (3, .int (nI cc))]) dX11_pieceOf_125 rfl (by decide) (by decide) rfl ?_
    refine ez_goto (tgt := 24) dX11_pieceOf_128 (by decide) ?_
    refine ez_sub (l' := [(4, .int 1), (0, .ref 112), (1, .int (nI ca)), (2, .int (nI cb)), (3, .int (nI cc))]) [0, 2, 3, 4, 5] rfl ?_
    have hn0 : zfb (zp0 (g 132) cb cc) (ca - 1) 1 = none := zfb_end hin (by omega)
    refine ez_iload (i := 4) dX11_pieceOf_24 rfl ?_
    refine ez_iconst (v := 3) dX11_pieceOf_26 (by decide) ?_
    refine ez_icmp_ge (tgt := 131) dX11_pieceOf_27 (by decide) (fun c14 => absurd c14 (by decide)) (fun c14 => ?_)
    refine ez_iload (i := 4) dX11_pieceOf_30 rfl ?_
    refine ez_if_ne (tgt := 39) dX11_pieceOf_32 (by decide) (fun c15 => ?_) (fun c15 => absurd (by decide) c15)
    refine ez_iconst (v := 0) dX11_pieceOf_39 (by decide) ?_
    refine ez_istore (l' := [(5, .int 0), (4, .int 1), (0, .ref 112), (1, .int (nI ca)), (2, .int (nI cb)), (3, .int (nI cc))]) dX11_pieceOf_40 (by decide) rfl ?_
    refine ez_eq (l2 := [(5, .int (nI 0)), (4, .int 1), (0, .ref 112), (1, .int (nI ca)), (2, .int (nI cb)), (3, .int (nI cc))]) (σ2 := (n, sl, kd, I5, L, Rf)) rfl rfl rfl rfl ?_
    refine ez_for cb (fun j (a : Unit) => ([(5, .int (nI j)), (4, .int 1), (0, .ref 112), (1, .int (nI ca)), (2, .int (nI cb)), (3, .int (nI cc))], (n, sl, kd, I5, L, Rf))) (fun j a => zfb (zp1 (g 132) ca cb cc) (cb - j) j = zfb (zp1 (g 132) ca cb cc) cb 0) ?_ ?_ cb 0 () (by omega) rfl
    · rintro j _ hk hin ih
      have hin : zfb (zp1 (g 132) ca cb cc) (cb - j) j = zfb (zp1 (g 132) ca cb cc) cb 0 := hin
      show ez_P _ _ _ _ _ _ 42 [(5, .int (nI j)), (4, .int 1), (0, .ref 112), (1, .int (nI ca)), (2, .int (nI cb)), (3, .int (nI cc))] [] (n, sl, kd, I5, L, Rf) _
      refine ez_iload (i := 5) dX11_pieceOf_42 rfl ?_
      refine ez_aload_n (i := 0) dX11_pieceOf_44 rfl rfl ?_
      refine ez_getR dX11_pieceOf_45 flX11_77 (hF.lt (by decide)) (hF.kc (by decide) rfl) (hF.pt 126 rfl) ?_
      refine ez_iload (i := 4) dX11_pieceOf_48 rfl ?_
      refine ez_iaN (k := 1) dX11_pieceOf_50 (hF.lt (by decide)) (hF.ka (by decide) rfl) (by decide) (by decide) ?_
      refine ez_topE (y := nI cb) ((congrFun (hQ3.g.1 133 (by unfold zgc; omega)) _).trans hl1) ?_
      refine ez_icmp_ge (tgt := 125) dX11_pieceOf_51 (by decide) (fun c16 => absurd c16 (nI_ge (by omega) (by omega))) (fun c16 => ?_)
      refine ez_iload (i := 4) dX11_pieceOf_54 rfl ?_
      refine ez_if_ne (tgt := 64) dX11_pieceOf_56 (by decide) (fun c17 => ?_) (fun c17 => absurd (by decide) c17)
      refine ez_iload_n (i := 1) dX11_pieceOf_64 rfl rfl ?_
      refine ez_istore (l' := [(6, .int (nI ca)), (5, .int (nI j)), (4, .int 1), (0, .ref 112), (1, .int (nI ca)), (2, .int (nI cb)), (3, .int (nI cc))]) dX11_pieceOf_65 (by decide) rfl ?_
      refine ez_iload (i := 4) dX11_pieceOf_67 rfl ?_
      refine ez_iconst (v := 1) dX11_pieceOf_69 (by decide) ?_
      refine ez_icmp_gt (tgt := 82) dX11_pieceOf_70 (by decide) (fun c18 => absurd c18 (by decide)) (fun c18 => ?_)
      refine ez_iload_n (i := 2) dX11_pieceOf_73 rfl rfl ?_
      refine ez_iload (i := 5) dX11_pieceOf_74 rfl ?_
      refine ez_min dX11_pieceOf_76 xmX11_197 (Nat.le_of_ble_eq_true rfl) ?_
      refine ez_topE (y := nI (min cb j)) (z_mnn (by omega) (by omega)) ?_
      refine ez_goto (tgt := 83) dX11_pieceOf_79 (by decide) ?_
      refine ez_istore (l' := [(7, .int (nI (min cb j))), (6, .int (nI ca)), (5, .int (nI j)), (4, .int 1), (0, .ref 112), (1, .int (nI ca)), (2, .int (nI cb)), (3, .int (nI cc))]) dX11_pieceOf_83 (by decide) rfl ?_
      refine ez_iload_n (i := 3) dX11_pieceOf_85 rfl rfl ?_
      refine ez_iload (i := 5) dX11_pieceOf_86 rfl ?_
      refine ez_min dX11_pieceOf_88 xmX11_197 (Nat.le_of_ble_eq_true rfl) ?_
      refine ez_topE (y := nI (min cc j)) (z_mnn (by omega) (by omega)) ?_
      refine ez_istore (l' := [(8, .int (nI (min cc j))), (7, .int (nI (min cb j))), (6, .int (nI ca)), (5, .int (nI j)), (4, .int 1), (0, .ref 112), (1, .int (nI ca)), (2, .int (nI cb)), (3, .int (nI cc))]) dX11_pieceOf_91 (by decide) rfl ?_
      refine ez_aload_n (i := 0) dX11_pieceOf_93 rfl rfl ?_
      refine ez_getR dX11_pieceOf_94 flX11_73 (hF.lt (by decide)) (hF.kc (by decide) rfl) (hF.pt 125 rfl) ?_
      refine ez_iload (i := 6) dX11_pieceOf_97 rfl ?_
      refine ez_iload (i := 7) dX11_pieceOf_99 rfl ?_
      refine ez_iload (i := 8) dX11_pieceOf_101 rfl ?_
      refine ez_callS (M1 := mX11_cakeOf) (rest := [.ref 132]) dX11_pieceOf_103 mlX11_361 msX11_cakeOf rfl (Nat.le_of_ble_eq_true rfl) rfl (y_cakeOf (I := I5) (L := L) (d + 4) ca (min cb j) (min cc j)) eb_rok ?_
      rintro _ _ ⟨rfl, rfl⟩
      show ez_P _ _ _ _ _ _ 106 [(8, .int (nI (min cc j))), (7, .int (nI (min cb j))), (6, .int (nI ca)), (5, .int (nI j)), (4, .int 1), (0, .ref 112), (1, .int (nI ca)), (2, .int (nI cb)), (3, .int (nI cc))] (.int (nI (64 * ca + 8 * (min cb j) + (min cc j))) :: [.ref 132]) _ _
      refine ez_zaN (k := (64 * ca + 8 * (min cb j) + (min cc j))) dX11_pieceOf_106 (hF.lt (by decide)) (hF.ka (by decide) rfl) (by omega) (by decide) ?_
      refine ez_topE (y := g 132 (64 * ca + 8 * (min cb j) + (min cc j))) ((congrFun (hQ3.g.1 132 (by unfold zgc; omega)) _).trans (congrFun h132 _)) ?_
      refine ez_if_eq (tgt := 119) dX11_pieceOf_107 (by decide) (fun c19 => ?_) (fun c19 => ?_)
      · skip
        refine ez_iinc (v := (nI (j + 1))) (l' := [(5, .int ((nI (j + 1)))), (8, .int (nI (min cc j))), (7, .int (nI (min cb j))), (6, .int (nI ca)), (4, .int 1), (0, .ref 112), (1, .int (nI ca)), (2, .int (nI cb)), (3, .int (nI cc))]) dX11_pieceOf_119 rfl (nI_1 _) (by decide) rfl ?_
        refine ez_goto (tgt := 42) dX11_pieceOf_122 (by decide) ?_
        refine ez_sub (l' := [(5, .int ((nI (j + 1)))), (4, .int 1), (0, .ref 112), (1, .int (nI ca)), (2, .int (nI cb)), (3, .int (nI cc))]) [0, 4, 5, 6, 7, 8] rfl ?_
        exact ez_eq (l2 := [(5, .int (nI (j + 1))), (4, .int 1), (0, .ref 112), (1, .int (nI ca)), (2, .int (nI cb)), (3, .int (nI cc))]) rfl rfl rfl rfl (ih () (zfb_step (k := j) hin (by omega) (by unfold zp1; exact if_pos c19)))
      · skip
        refine ez_bipush (v := 10) dX11_pieceOf_110 (by decide) ?_
        refine ez_iload (i := 4) dX11_pieceOf_112 rfl ?_
        refine ez_imul dX11_pieceOf_114 ?_
        refine ez_topE (y := 10) (by decide) ?_
        refine ez_iload (i := 5) dX11_pieceOf_115 rfl ?_
        refine ez_iadd dX11_pieceOf_117 ?_
        refine ez_topE (y := nI (10 + j)) (nI_add _ _) ?_
        refine ez_iret dX11_pieceOf_118 rfl rfl ?_
        rw [show zpie (g 132) ca cb cc = some (10 + j) from by unfold zpie; rw [hn0]; rw [zfb_hit (k := j) hin (by omega) (x := (10 + j)) (by unfold zp1; exact if_neg c19)]]
        exact ⟨congrArg (fun z => some (Value.int (nI z))) (by omega), _, _, rfl, hQ3, h132⟩
    · rintro _ hin
      have hin : zfb (zp1 (g 132) ca cb cc) (cb - cb) cb = zfb (zp1 (g 132) ca cb cc) cb 0 := hin
      show ez_P _ _ _ _ _ _ 42 [(5, .int (nI cb)), (4, .int 1), (0, .ref 112), (1, .int (nI ca)), (2, .int (nI cb)), (3, .int (nI cc))] [] (n, sl, kd, I5, L, Rf) _
      refine ez_iload (i := 5) dX11_pieceOf_42 rfl ?_
      refine ez_aload_n (i := 0) dX11_pieceOf_44 rfl rfl ?_
      refine ez_getR dX11_pieceOf_45 flX11_77 (hF.lt (by decide)) (hF.kc (by decide) rfl) (hF.pt 126 rfl) ?_
      refine ez_iload (i := 4) dX11_pieceOf_48 rfl ?_
      refine ez_iaN (k := 1) dX11_pieceOf_50 (hF.lt (by decide)) (hF.ka (by decide) rfl) (by decide) (by decide) ?_
      refine ez_topE (y := nI cb) ((congrFun (hQ3.g.1 133 (by unfold zgc; omega)) _).trans hl1) ?_
      refine ez_icmp_ge (tgt := 125) dX11_pieceOf_51 (by decide) (fun c20 => ?_) (fun c20 => absurd (nI_le (by omega) (by omega)) c20)
      refine ez_iinc (v := 2) (l' := [(4, .int 2), (5, .int (nI cb)), (0, .ref 112), (1, .int (nI ca)), (2, .int (nI cb)), (3, .int (nI cc))]) dX11_pieceOf_125 rfl (by decide) (by decide) rfl ?_
      refine ez_goto (tgt := 24) dX11_pieceOf_128 (by decide) ?_
      refine ez_sub (l' := [(4, .int 2), (0, .ref 112), (1, .int (nI ca)), (2, .int (nI cb)), (3, .int (nI cc))]) [0, 2, 3, 4, 5] rfl ?_
      have hn1 : zfb (zp1 (g 132) ca cb cc) cb 0 = none := zfb_end hin (Nat.le_refl _)
      refine ez_iload (i := 4) dX11_pieceOf_24 rfl ?_
      refine ez_iconst (v := 3) dX11_pieceOf_26 (by decide) ?_
      refine ez_icmp_ge (tgt := 131) dX11_pieceOf_27 (by decide) (fun c21 => absurd c21 (by decide)) (fun c21 => ?_)
      refine ez_iload (i := 4) dX11_pieceOf_30 rfl ?_
      refine ez_if_ne (tgt := 39) dX11_pieceOf_32 (by decide) (fun c22 => ?_) (fun c22 => absurd (by decide) c22)
      refine ez_iconst (v := 0) dX11_pieceOf_39 (by decide) ?_
      refine ez_istore (l' := [(5, .int 0), (4, .int 2), (0, .ref 112), (1, .int (nI ca)), (2, .int (nI cb)), (3, .int (nI cc))]) dX11_pieceOf_40 (by decide) rfl ?_
      refine ez_eq (l2 := [(5, .int (nI 0)), (4, .int 2), (0, .ref 112), (1, .int (nI ca)), (2, .int (nI cb)), (3, .int (nI cc))]) (σ2 := (n, sl, kd, I5, L, Rf)) rfl rfl rfl rfl ?_
      refine ez_for cc (fun j (a : Unit) => ([(5, .int (nI j)), (4, .int 2), (0, .ref 112), (1, .int (nI ca)), (2, .int (nI cb)), (3, .int (nI cc))], (n, sl, kd, I5, L, Rf))) (fun j a => zfb (zp2 (g 132) ca cb cc) (cc - j) j = zfb (zp2 (g 132) ca cb cc) cc 0) ?_ ?_ cc 0 () (by omega) rfl
      · rintro j _ hk hin ih
        have hin : zfb (zp2 (g 132) ca cb cc) (cc - j) j = zfb (zp2 (g 132) ca cb cc) cc 0 := hin
        show ez_P _ _ _ _ _ _ 42 [(5, .int (nI j)), (4, .int 2), (0, .ref 112), (1, .int (nI ca)), (2, .int (nI cb)), (3, .int (nI cc))] [] (n, sl, kd, I5, L, Rf) _
        refine ez_iload (i := 5) dX11_pieceOf_42 rfl ?_
        refine ez_aload_n (i := 0) dX11_pieceOf_44 rfl rfl ?_
        refine ez_getR dX11_pieceOf_45 flX11_77 (hF.lt (by decide)) (hF.kc (by decide) rfl) (hF.pt 126 rfl) ?_
        refine ez_iload (i := 4) dX11_pieceOf_48 rfl ?_
        refine ez_iaN (k := 2) dX11_pieceOf_50 (hF.lt (by decide)) (hF.ka (by decide) rfl) (by decide) (by decide) ?_
        refine ez_topE (y := nI cc) ((congrFun (hQ3.g.1 133 (by unfold zgc; omega)) _).trans hl2) ?_
        refine ez_icmp_ge (tgt := 125) dX11_pieceOf_51 (by decide) (fun c23 => absurd c23 (nI_ge (by omega) (by omega))) (fun c23 => ?_)
        refine ez_iload (i := 4) dX11_pieceOf_54 rfl ?_
        refine ez_if_ne (tgt := 64) dX11_pieceOf_56 (by decide) (fun c24 => ?_) (fun c24 => absurd (by decide) c24)
        refine ez_iload_n (i := 1) dX11_pieceOf_64 rfl rfl ?_
        refine ez_istore (l' := [(6, .int (nI ca)), (5, .int (nI j)), (4, .int 2), (0, .ref 112), (1, .int (nI ca)), (2, .int (nI cb)), (3, .int (nI cc))]) dX11_pieceOf_65 (by decide) rfl ?_
        refine ez_iload (i := 4) dX11_pieceOf_67 rfl ?_
        refine ez_iconst (v := 1) dX11_pieceOf_69 (by decide) ?_
        refine ez_icmp_gt (tgt := 82) dX11_pieceOf_70 (by decide) (fun c25 => ?_) (fun c25 => absurd (by decide) c25)
        refine ez_iload_n (i := 2) dX11_pieceOf_82 rfl rfl ?_
        refine ez_istore (l' := [(7, .int (nI cb)), (6, .int (nI ca)), (5, .int (nI j)), (4, .int 2), (0, .ref 112), (1, .int (nI ca)), (2, .int (nI cb)), (3, .int (nI cc))]) dX11_pieceOf_83 (by decide) rfl ?_
        refine ez_iload_n (i := 3) dX11_pieceOf_85 rfl rfl ?_
        refine ez_iload (i := 5) dX11_pieceOf_86 rfl ?_
        refine ez_min dX11_pieceOf_88 xmX11_197 (Nat.le_of_ble_eq_true rfl) ?_
        refine ez_topE (y := nI (min cc j)) (z_mnn (by omega) (by omega)) ?_
        refine ez_istore (l' := [(8, .int (nI (min cc j))), (7, .int (nI cb)), (6, .int (nI ca)), (5, .int (nI j)), (4, .int 2), (0, .ref 112), (1, .int (nI ca)), (2, .int (nI cb)), (3, .int (nI cc))]) dX11_pieceOf_91 (by decide) rfl ?_
        refine ez_aload_n (i := 0) dX11_pieceOf_93 rfl rfl ?_
        refine ez_getR dX11_pieceOf_94 flX11_73 (hF.lt (by decide)) (hF.kc (by decide) rfl) (hF.pt 125 rfl) ?_
        refine ez_iload (i := 6) dX11_pieceOf_97 rfl ?_
        refine ez_iload (i := 7) dX11_pieceOf_99 rfl ?_
        refine ez_iload (i := 8) dX11_pieceOf_101 rfl ?_
        refine ez_callS (M1 := mX11_cakeOf) (rest := [.ref 132]) dX11_pieceOf_103 mlX11_361 msX11_cakeOf rfl (Nat.le_of_ble_eq_true rfl) rfl (y_cakeOf (I := I5) (L := L) (d + 4) ca cb (min cc j)) eb_rok ?_
        rintro _ _ ⟨rfl, rfl⟩
        show ez_P _ _ _ _ _ _ 106 [(8, .int (nI (min cc j))), (7, .int (nI cb)), (6, .int (nI ca)), (5, .int (nI j)), (4, .int 2), (0, .ref 112), (1, .int (nI ca)), (2, .int (nI cb)), (3, .int (nI cc))] (.int (nI (64 * ca + 8 * cb + (min cc j))) :: [.ref 132]) _ _
        refine ez_zaN (k := (64 * ca + 8 * cb + (min cc j))) dX11_pieceOf_106 (hF.lt (by decide)) (hF.ka (by decide) rfl) (by omega) (by decide) ?_
        refine ez_topE (y := g 132 (64 * ca + 8 * cb + (min cc j))) ((congrFun (hQ3.g.1 132 (by unfold zgc; omega)) _).trans (congrFun h132 _)) ?_
        refine ez_if_eq (tgt := 119) dX11_pieceOf_107 (by decide) (fun c26 => ?_) (fun c26 => ?_)
        · skip
          refine ez_iinc (v := (nI (j + 1))) (l' := [(5, .int ((nI (j + 1)))), (8, .int (nI (min cc j))), (7, .int (nI cb)), (6, .int (nI ca)), (4, .int 2), (0, .ref 112), (1, .int (nI ca)), (2, .int (nI cb)), (3, .int (nI cc))]) dX11_pieceOf_119 rfl (nI_1 _) (by decide) rfl ?_
          refine ez_goto (tgt := 42) dX11_pieceOf_122 (by decide) ?_
          refine ez_sub (l' := [(5, .int ((nI (j + 1)))), (4, .int 2), (0, .ref 112), (1, .int (nI ca)), (2, .int (nI cb)), (3, .int (nI cc))]) [0, 4, 5, 6, 7, 8] rfl ?_
          exact ez_eq (l2 := [(5, .int (nI (j + 1))), (4, .int 2), (0, .ref 112), (1, .int (nI ca)), (2, .int (nI cb)), (3, .int (nI cc))]) rfl rfl rfl rfl (ih () (zfb_step (k := j) hin (by omega) (by unfold zp2; exact if_pos c26)))
        · skip
          refine ez_bipush (v := 10) dX11_pieceOf_110 (by decide) ?_
          refine ez_iload (i := 4) dX11_pieceOf_112 rfl ?_
          refine ez_imul dX11_pieceOf_114 ?_
          refine ez_topE (y := 20) (by decide) ?_
          refine ez_iload (i := 5) dX11_pieceOf_115 rfl ?_
          refine ez_iadd dX11_pieceOf_117 ?_
          refine ez_topE (y := nI (20 + j)) (nI_add _ _) ?_
          refine ez_iret dX11_pieceOf_118 rfl rfl ?_
          rw [show zpie (g 132) ca cb cc = some (20 + j) from by unfold zpie; rw [hn0, hn1]; rw [zfb_hit (k := j) hin (by omega) (x := (20 + j)) (by unfold zp2; exact if_neg c26)]]
          exact ⟨congrArg (fun z => some (Value.int (nI z))) (by omega), _, _, rfl, hQ3, h132⟩
      · rintro _ hin
        have hin : zfb (zp2 (g 132) ca cb cc) (cc - cc) cc = zfb (zp2 (g 132) ca cb cc) cc 0 := hin
        show ez_P _ _ _ _ _ _ 42 [(5, .int (nI cc)), (4, .int 2), (0, .ref 112), (1, .int (nI ca)), (2, .int (nI cb)), (3, .int (nI cc))] [] (n, sl, kd, I5, L, Rf) _
        refine ez_iload (i := 5) dX11_pieceOf_42 rfl ?_
        refine ez_aload_n (i := 0) dX11_pieceOf_44 rfl rfl ?_
        refine ez_getR dX11_pieceOf_45 flX11_77 (hF.lt (by decide)) (hF.kc (by decide) rfl) (hF.pt 126 rfl) ?_
        refine ez_iload (i := 4) dX11_pieceOf_48 rfl ?_
        refine ez_iaN (k := 2) dX11_pieceOf_50 (hF.lt (by decide)) (hF.ka (by decide) rfl) (by decide) (by decide) ?_
        refine ez_topE (y := nI cc) ((congrFun (hQ3.g.1 133 (by unfold zgc; omega)) _).trans hl2) ?_
        refine ez_icmp_ge (tgt := 125) dX11_pieceOf_51 (by decide) (fun c27 => ?_) (fun c27 => absurd (nI_le (by omega) (by omega)) c27)
        refine ez_iinc (v := 3) (l' := [(4, .int 3), (5, .int (nI cc)), (0, .ref 112), (1, .int (nI ca)), (2, .int (nI cb)), (3, .int (nI cc))]) dX11_pieceOf_125 rfl (by decide) (by decide) rfl ?_
        refine ez_goto (tgt := 24) dX11_pieceOf_128 (by decide) ?_
        refine ez_sub (l' := [(4, .int 3), (0, .ref 112), (1, .int (nI ca)), (2, .int (nI cb)), (3, .int (nI cc))]) [0, 2, 3, 4, 5] rfl ?_
        have hn2 : zfb (zp2 (g 132) ca cb cc) cc 0 = none := zfb_end hin (Nat.le_refl _)
        refine ez_iload (i := 4) dX11_pieceOf_24 rfl ?_
        refine ez_iconst (v := 3) dX11_pieceOf_26 (by decide) ?_
        refine ez_icmp_ge (tgt := 131) dX11_pieceOf_27 (by decide) (fun c28 => ?_) (fun c28 => absurd (by decide) c28)
        refine ez_iconst (v := (-1)) dX11_pieceOf_131 (by decide) ?_
        refine ez_iret dX11_pieceOf_132 rfl rfl ?_
        rw [show zpie (g 132) ca cb cc = none from by unfold zpie; rw [hn0, hn1]; exact hn2]
        exact ⟨rfl, _, _, rfl, hQ3, h132⟩
theorem y_X11_cake_1 {n : Nat} {sl : Nat × Nat} {kd : Nat → Nat × Nat} {I : Nat → Nat → Int32} {L : Nat → Nat → Int64} {Rf : Nat → Nat → Option Nat} (d : Nat) {T : zT} {H : Nat} (hM : zM n kd I L Rf T) (hO : zOk H T) (hH : H ≤ 1000000000) {n0 : Nat} (hn1 : 1 ≤ n0) (hn : n0 ≤ 7)  : zq mX11_cake (d + 400) [.ref 112, .int 1, .int (nI n0)] (n, sl, kd, I, L, Rf) (zpM n sl kd I L Rf (some (.int (s_cake T 1 (nI n0)).1)) (s_cake T 1 (nI n0)).2) := by
  have hF := hM.F; have hc7 := hO.c
  intro f B
  refine ez_meth pn_X.2.2.2.2.2.2.2.2.2.2.2 (Nat.le_of_ble_eq_true rfl) ?_
  show ez_P _ _ _ _ _ _ 0 [(0, .ref 112), (1, .int 1), (2, .int (nI n0))] [] (n, sl, kd, I, L, Rf) _
  refine ez_aload_n (i := 0) dX11_cake_0 rfl rfl ?_
  refine ez_iconst (v := 0) dX11_cake_1 (by decide) ?_
  refine ez_pI dX11_cake_2 plX11_89 (hF.lt (by decide)) (hF.lx (by decide)) (hF.kc (by decide) rfl) rfl rfl ?_
  refine ez_nmI (fun I1 hI1 => ?_)
  have hQ2 : zQ n kd I L Rf I I1 L T (I 124) (I 112 25) := by rw [hI1]; exact zQ.start hM
  refine ez_iload_n (i := 1) dX11_cake_5 rfl rfl ?_
  refine ez_iconst (v := 1) dX11_cake_6 (by decide) ?_
  refine ez_iconst (v := 3) dX11_cake_7 (by decide) ?_
  refine ez_callS (M1 := mX11_in) (rest := []) dX11_cake_8 mlX11_98 msX11_in rfl (Nat.le_of_ble_eq_true rfl) rfl (zq_b1 (by decide) (zq_b (q_X11_in (d + 399) 1 1 3) (n, sl, kd, I1, L, Rf))) eb_rok ?_
  rintro _ _ ⟨rfl, rfl⟩
  show ez_P _ _ _ _ _ _ 11 [(0, .ref 112), (1, .int 1), (2, .int (nI n0))] (.int 1 :: []) _ _
  refine ez_if_eq (tgt := 24) dX11_cake_11 (by decide) (fun c3 => absurd c3 (by decide)) (fun c3 => ?_)
  refine ez_iload_n (i := 2) dX11_cake_14 rfl rfl ?_
  refine ez_iconst (v := 1) dX11_cake_15 (by decide) ?_
  refine ez_bipush (v := 7) dX11_cake_16 (by decide) ?_
  refine ez_callS (M1 := mX11_in) (rest := []) dX11_cake_18 mlX11_98 msX11_in rfl (Nat.le_of_ble_eq_true rfl) rfl (zq_b1 (z_n19 (N := 7) hn1 hn (by decide)) (zq_b (q_X11_in (d + 399) (nI n0) 1 7) (n, sl, kd, I1, L, Rf))) eb_rok ?_
  rintro _ _ ⟨rfl, rfl⟩
  show ez_P _ _ _ _ _ _ 21 [(0, .ref 112), (1, .int 1), (2, .int (nI n0))] (.int 1 :: []) _ _
  refine ez_if_ne (tgt := 26) dX11_cake_21 (by decide) (fun c4 => ?_) (fun c4 => absurd (by decide) c4)
  refine ez_iconst (v := 1) dX11_cake_26 (by decide) ?_
  refine ez_istore_n (l' := [(3, .int 1), (0, .ref 112), (1, .int 1), (2, .int (nI n0))]) dX11_cake_27 rfl (by decide) rfl ?_
  refine ez_eq (l2 := [(3, .int (nI (0 + 1))), (0, .ref 112), (1, .int 1), (2, .int (nI n0))]) (σ2 := (n, sl, kd, I1, L, Rf)) rfl rfl rfl rfl ?_
  refine ez_for n0 (fun k (a : (Nat → Nat → Int32) × (Nat → Nat → Int64) × Int32 × (Nat → Nat → Int32)) => ([(3, .int (nI (k + 1))), (0, .ref 112), (1, .int 1), (2, .int (nI n0))], (n, sl, kd, a.1, a.2.1, Rf))) (fun k a => zQ n kd I L Rf a.2.2.2 a.1 a.2.1 T (I 124) a.2.2.1 ∧ ztk (a.2.2.2 132) (k + 1) 0 0) ?_ ?_ n0 0 (I1, L, I 112 25, I) (by omega) ⟨hQ2, (fun x1 y1 z1 q1 q2 q3 q4 => by unfold zl3 at q4; omega)⟩
  · rintro k ⟨Ia, La, oa, ga⟩ hk ⟨hQ0, hex⟩ ih
    have hQ0 : zQ n kd I L Rf ga Ia La T (I 124) oa := hQ0
    have hex : ztk (ga 132) (k + 1) 0 0 := hex
    show ez_P _ _ _ _ _ _ 28 [(3, .int (nI (k + 1))), (0, .ref 112), (1, .int 1), (2, .int (nI n0))] [] (n, sl, kd, Ia, La, Rf) _
    refine ez_iload_n (i := 3) dX11_cake_28 rfl rfl ?_
    refine ez_iload_n (i := 2) dX11_cake_29 rfl rfl ?_
    refine ez_icmp_gt (tgt := 101) dX11_cake_30 (by decide) (fun c5 => absurd c5 (Int32.not_lt.mpr (nI_le (by omega) (by omega)))) (fun c5 => ?_)
    refine ez_iconst (v := 0) dX11_cake_33 (by decide) ?_
    refine ez_istore (l' := [(4, .int 0), (3, .int (nI (k + 1))), (0, .ref 112), (1, .int 1), (2, .int (nI n0))]) dX11_cake_34 (by decide) rfl ?_
    refine ez_eq (l2 := [(4, .int (nI 0)), (3, .int (nI (k + 1))), (0, .ref 112), (1, .int 1), (2, .int (nI n0))]) (σ2 := (n, sl, kd, Ia, La, Rf)) rfl rfl rfl rfl ?_
    refine ez_for (k + 1 + 1) (fun j (a : (Nat → Nat → Int32) × (Nat → Nat → Int64) × Int32 × (Nat → Nat → Int32)) => ([(4, .int (nI j)), (3, .int (nI (k + 1))), (0, .ref 112), (1, .int 1), (2, .int (nI n0))], (n, sl, kd, a.1, a.2.1, Rf))) (fun j a => zQ n kd I L Rf a.2.2.2 a.1 a.2.1 T (I 124) a.2.2.1 ∧ ztk (a.2.2.2 132) (k + 1) j 0) ?_ ?_ (k + 1 + 1) 0 (Ia, La, oa, ga) (by omega) ⟨hQ0, hex⟩
    · rintro j ⟨Ia2, La2, oa2, gb⟩ hk2 ⟨hQ02, hex2⟩ ih2
      have hQ02 : zQ n kd I L Rf gb Ia2 La2 T (I 124) oa2 := hQ02
      have hex2 : ztk (gb 132) (k + 1) j 0 := hex2
      show ez_P _ _ _ _ _ _ 36 [(4, .int (nI j)), (3, .int (nI (k + 1))), (0, .ref 112), (1, .int 1), (2, .int (nI n0))] [] (n, sl, kd, Ia2, La2, Rf) _
      refine ez_iload (i := 4) dX11_cake_36 rfl ?_
      refine ez_iload_n (i := 3) dX11_cake_38 rfl rfl ?_
      refine ez_icmp_gt (tgt := 95) dX11_cake_39 (by decide) (fun c6 => absurd c6 (Int32.not_lt.mpr (nI_le (by omega) (by omega)))) (fun c6 => ?_)
      refine ez_iconst (v := 0) dX11_cake_42 (by decide) ?_
      refine ez_istore (l' := [(5, .int 0), (4, .int (nI j)), (3, .int (nI (k + 1))), (0, .ref 112), (1, .int 1), (2, .int (nI n0))]) dX11_cake_43 (by decide) rfl ?_
      refine ez_eq (l2 := [(5, .int (nI 0)), (4, .int (nI j)), (3, .int (nI (k + 1))), (0, .ref 112), (1, .int 1), (2, .int (nI n0))]) (σ2 := (n, sl, kd, Ia2, La2, Rf)) rfl rfl rfl rfl ?_
      refine ez_for (j + 1) (fun i (a : (Nat → Nat → Int32) × (Nat → Nat → Int64) × Int32 × (Nat → Nat → Int32)) => ([(5, .int (nI i)), (4, .int (nI j)), (3, .int (nI (k + 1))), (0, .ref 112), (1, .int 1), (2, .int (nI n0))], (n, sl, kd, a.1, a.2.1, Rf))) (fun i a => zQ n kd I L Rf a.2.2.2 a.1 a.2.1 T (I 124) a.2.2.1 ∧ ztk (a.2.2.2 132) (k + 1) j i) ?_ ?_ (j + 1) 0 (Ia2, La2, oa2, gb) (by omega) ⟨hQ02, hex2⟩
      · rintro i ⟨Ia3, La3, oa3, gc⟩ hk3 ⟨hQ03, hex3⟩ ih3
        have hQ03 : zQ n kd I L Rf gc Ia3 La3 T (I 124) oa3 := hQ03
        have hex3 : ztk (gc 132) (k + 1) j i := hex3
        show ez_P _ _ _ _ _ _ 45 [(5, .int (nI i)), (4, .int (nI j)), (3, .int (nI (k + 1))), (0, .ref 112), (1, .int 1), (2, .int (nI n0))] [] (n, sl, kd, Ia3, La3, Rf) _
        refine ez_iload (i := 5) dX11_cake_45 rfl ?_
        refine ez_iload (i := 4) dX11_cake_47 rfl ?_
        refine ez_icmp_gt (tgt := 89) dX11_cake_49 (by decide) (fun c7 => absurd c7 (Int32.not_lt.mpr (nI_le (by omega) (by omega)))) (fun c7 => ?_)
        refine ez_aload_n (i := 0) dX11_cake_52 rfl rfl ?_
        refine ez_getR dX11_cake_53 flX11_73 (hF.lt (by decide)) (hF.kc (by decide) rfl) (hF.pt 125 rfl) ?_
        refine ez_iload_n (i := 3) dX11_cake_56 rfl rfl ?_
        refine ez_iload (i := 4) dX11_cake_57 rfl ?_
        refine ez_iload (i := 5) dX11_cake_59 rfl ?_
        refine ez_callS (M1 := mX11_cakeOf) (rest := [.ref 132]) dX11_cake_61 mlX11_361 msX11_cakeOf rfl (Nat.le_of_ble_eq_true rfl) rfl (y_cakeOf (I := Ia3) (L := La3) (d + 399) (k + 1) j i) eb_rok ?_
        rintro _ _ ⟨rfl, rfl⟩
        show ez_P _ _ _ _ _ _ 64 [(5, .int (nI i)), (4, .int (nI j)), (3, .int (nI (k + 1))), (0, .ref 112), (1, .int 1), (2, .int (nI n0))] (.int (nI (64 * (k + 1) + 8 * j + i)) :: [.ref 132]) _ _
        refine ez_aload_n (i := 0) dX11_cake_64 rfl rfl ?_
        refine ez_iload_n (i := 3) dX11_cake_65 rfl rfl ?_
        refine ez_iload (i := 4) dX11_cake_66 rfl ?_
        refine ez_iload (i := 5) dX11_cake_68 rfl ?_
        refine ez_callV (M1 := mX11_pieceOf) (rest := [.int (nI (64 * (k + 1) + 8 * j + i)), .ref 132]) dX11_cake_70 mlX11_364 mvX11_pieceOf rfl (hF.lt (by decide)) (hF.kc (by decide) rfl) (Nat.le_of_ble_eq_true rfl) rfl (y_X11_pieceOf (I := Ia3) (L := La3) (d + 394) hQ03 hO hH (ca := (k + 1)) (cb := j) (cc := i) (by omega) (by omega)) (fun _ _ h => Or.inl (by obtain ⟨_, I1, g1, h, _⟩ := h; rw [h])) ?_
        rintro _ _ ⟨rfl, I8, gp10, rfl, hQ9, hgp11⟩
        rw [zpie_cg (by omega) (by omega) hex3]
        show ez_P _ _ _ _ _ _ 73 [(5, .int (nI i)), (4, .int (nI j)), (3, .int (nI (k + 1))), (0, .ref 112), (1, .int 1), (2, .int (nI n0))] (.int (zon (zpie zct1 (k + 1) j i)) :: [.int (nI (64 * (k + 1) + 8 * j + i)), .ref 132]) (n, sl, kd, I8, La3, Rf) _
        have hQ9 : zQ n kd I L Rf gp10 I8 La3 T (I 124) oa3 := hQ9
        refine ez_iconst (v := (-1)) dX11_cake_73 (by decide) ?_
        refine ez_icmp_ne (tgt := 81) dX11_cake_74 (by decide) (fun c12 => ?_) (fun c12 => ?_)
        · skip
          refine ez_iconst (v := 0) dX11_cake_81 (by decide) ?_
          refine ez_zsN (k := (64 * (k + 1) + 8 * j + i)) dX11_cake_82 (hF.lt (by decide)) (hF.lx (by decide)) (hF.ka (by decide) rfl) (by omega) (by decide) ?_
          refine ez_nmI (fun I13 hI13 => ?_)
          have hQ14 : zQ n kd I L Rf (z_set gp10 132 (64 * (k + 1) + 8 * j + i) (vp_nar .boolean 0)) I13 La3 T (I 124) oa3 := by rw [hI13]; exact hQ9.gset (by unfold zgc; omega)
          refine ez_iinc (v := (nI (i + 1))) (l' := [(5, .int ((nI (i + 1)))), (4, .int (nI j)), (3, .int (nI (k + 1))), (0, .ref 112), (1, .int 1), (2, .int (nI n0))]) dX11_cake_83 rfl (nI_1 _) (by decide) rfl ?_
          refine ez_goto (tgt := 45) dX11_cake_86 (by decide) ?_
          have hnew : ztk ((z_set gp10 132 (64 * (k + 1) + 8 * j + i) (vp_nar .boolean 0)) 132) (k + 1) j (i + 1) := by
            intro x1 y1 z1 q1 q2 q3 q4
            by_cases e : 64 * x1 + 8 * y1 + z1 = 64 * (k + 1) + 8 * j + i
            · have e1 : x1 = k + 1 ∧ y1 = j ∧ z1 = i := by unfold zl3 at q4; omega
              rw [e, z_set_at]
              exact ((zpie_k (x := k + 1) (y := j) (z := i) (by omega) (by omega) (by omega) (by omega)).2 (fun g => c12 ((zon_no (fun t ht => zpie_lt ht (by omega))).mpr g))).symm
            · rw [z_set_nk e, hgp11]; exact hex3 x1 y1 z1 q1 q2 q3 (by unfold zl3 at q4 ⊢; omega)
          exact ez_eq (l2 := [(5, .int (nI (i + 1))), (4, .int (nI j)), (3, .int (nI (k + 1))), (0, .ref 112), (1, .int 1), (2, .int (nI n0))]) rfl rfl rfl rfl (ih3 (I13, La3, oa3, z_set gp10 132 (64 * (k + 1) + 8 * j + i) (vp_nar .boolean 0)) ⟨hQ14, hnew⟩)
        · skip
          refine ez_iconst (v := 1) dX11_cake_77 (by decide) ?_
          refine ez_goto (tgt := 82) dX11_cake_78 (by decide) ?_
          refine ez_zsN (k := (64 * (k + 1) + 8 * j + i)) dX11_cake_82 (hF.lt (by decide)) (hF.lx (by decide)) (hF.ka (by decide) rfl) (by omega) (by decide) ?_
          refine ez_nmI (fun I15 hI15 => ?_)
          have hQ16 : zQ n kd I L Rf (z_set gp10 132 (64 * (k + 1) + 8 * j + i) (vp_nar .boolean 1)) I15 La3 T (I 124) oa3 := by rw [hI15]; exact hQ9.gset (by unfold zgc; omega)
          refine ez_iinc (v := (nI (i + 1))) (l' := [(5, .int ((nI (i + 1)))), (4, .int (nI j)), (3, .int (nI (k + 1))), (0, .ref 112), (1, .int 1), (2, .int (nI n0))]) dX11_cake_83 rfl (nI_1 _) (by decide) rfl ?_
          refine ez_goto (tgt := 45) dX11_cake_86 (by decide) ?_
          have hnew : ztk ((z_set gp10 132 (64 * (k + 1) + 8 * j + i) (vp_nar .boolean 1)) 132) (k + 1) j (i + 1) := by
            intro x1 y1 z1 q1 q2 q3 q4
            by_cases e : 64 * x1 + 8 * y1 + z1 = 64 * (k + 1) + 8 * j + i
            · have e1 : x1 = k + 1 ∧ y1 = j ∧ z1 = i := by unfold zl3 at q4; omega
              rw [e, z_set_at]
              exact ((zpie_k (x := k + 1) (y := j) (z := i) (by omega) (by omega) (by omega) (by omega)).1 ((zon_no (fun t ht => zpie_lt ht (by omega))).mp (Classical.not_not.mp c12))).symm
            · rw [z_set_nk e, hgp11]; exact hex3 x1 y1 z1 q1 q2 q3 (by unfold zl3 at q4 ⊢; omega)
          exact ez_eq (l2 := [(5, .int (nI (i + 1))), (4, .int (nI j)), (3, .int (nI (k + 1))), (0, .ref 112), (1, .int 1), (2, .int (nI n0))]) rfl rfl rfl rfl (ih3 (I15, La3, oa3, z_set gp10 132 (64 * (k + 1) + 8 * j + i) (vp_nar .boolean 1)) ⟨hQ16, hnew⟩)
      · rintro ⟨Ia3, La3, oa3, gc⟩ ⟨hQ03, hex3⟩
        have hQ03 : zQ n kd I L Rf gc Ia3 La3 T (I 124) oa3 := hQ03
        have hex3 : ztk (gc 132) (k + 1) j (j + 1) := hex3
        show ez_P _ _ _ _ _ _ 45 [(5, .int (nI (j + 1))), (4, .int (nI j)), (3, .int (nI (k + 1))), (0, .ref 112), (1, .int 1), (2, .int (nI n0))] [] (n, sl, kd, Ia3, La3, Rf) _
        refine ez_iload (i := 5) dX11_cake_45 rfl ?_
        refine ez_iload (i := 4) dX11_cake_47 rfl ?_
        refine ez_icmp_gt (tgt := 89) dX11_cake_49 (by decide) (fun c17 => ?_) (fun c17 => absurd (nI_lt (by omega) (by omega)) c17)
        refine ez_iinc (v := (nI (j + 1))) (l' := [(4, .int ((nI (j + 1)))), (5, .int (nI (j + 1))), (3, .int (nI (k + 1))), (0, .ref 112), (1, .int 1), (2, .int (nI n0))]) dX11_cake_89 rfl (nI_1 _) (by decide) rfl ?_
        refine ez_goto (tgt := 36) dX11_cake_92 (by decide) ?_
        refine ez_sub (l' := [(4, .int ((nI (j + 1)))), (3, .int (nI (k + 1))), (0, .ref 112), (1, .int 1), (2, .int (nI n0))]) [0, 2, 3, 4, 5] rfl ?_
        exact ez_eq (l2 := [(4, .int (nI (j + 1))), (3, .int (nI (k + 1))), (0, .ref 112), (1, .int 1), (2, .int (nI n0))]) rfl rfl rfl rfl (ih2 (Ia3, La3, oa3, gc) ⟨hQ03, (fun x1 y1 z1 q1 q2 q3 q4 => hex3 x1 y1 z1 q1 q2 q3 (by unfold zl3 at q4 ⊢; omega))⟩)
    · rintro ⟨Ia2, La2, oa2, gb⟩ ⟨hQ02, hex2⟩
      have hQ02 : zQ n kd I L Rf gb Ia2 La2 T (I 124) oa2 := hQ02
      have hex2 : ztk (gb 132) (k + 1) (k + 1 + 1) 0 := hex2
      show ez_P _ _ _ _ _ _ 36 [(4, .int (nI (k + 1 + 1))), (3, .int (nI (k + 1))), (0, .ref 112), (1, .int 1), (2, .int (nI n0))] [] (n, sl, kd, Ia2, La2, Rf) _
      refine ez_iload (i := 4) dX11_cake_36 rfl ?_
      refine ez_iload_n (i := 3) dX11_cake_38 rfl rfl ?_
      refine ez_icmp_gt (tgt := 95) dX11_cake_39 (by decide) (fun c18 => ?_) (fun c18 => absurd (nI_lt (by omega) (by omega)) c18)
      refine ez_iinc (v := (nI (k + 2))) (l' := [(3, .int ((nI (k + 2)))), (4, .int (nI (k + 1 + 1))), (0, .ref 112), (1, .int 1), (2, .int (nI n0))]) dX11_cake_95 rfl (nI_1 _) (by decide) rfl ?_
      refine ez_goto (tgt := 28) dX11_cake_98 (by decide) ?_
      refine ez_sub (l' := [(3, .int ((nI (k + 2)))), (0, .ref 112), (1, .int 1), (2, .int (nI n0))]) [0, 2, 3, 4] rfl ?_
      exact ez_eq (l2 := [(3, .int (nI (k + 1 + 1))), (0, .ref 112), (1, .int 1), (2, .int (nI n0))]) rfl rfl rfl rfl (ih (Ia2, La2, oa2, gb) ⟨hQ02, (fun x1 y1 z1 q1 q2 q3 q4 => hex2 x1 y1 z1 q1 q2 q3 (by unfold zl3 at q4 ⊢; omega))⟩)
  · rintro ⟨Ia, La, oa, ga⟩ ⟨hQ0, hex⟩
    have hQ0 : zQ n kd I L Rf ga Ia La T (I 124) oa := hQ0
    have hex : ztk (ga 132) (n0 + 1) 0 0 := hex
    show ez_P _ _ _ _ _ _ 28 [(3, .int (nI (n0 + 1))), (0, .ref 112), (1, .int 1), (2, .int (nI n0))] [] (n, sl, kd, Ia, La, Rf) _
    refine ez_iload_n (i := 3) dX11_cake_28 rfl rfl ?_
    refine ez_iload_n (i := 2) dX11_cake_29 rfl rfl ?_
    refine ez_icmp_gt (tgt := 101) dX11_cake_30 (by decide) (fun c19 => ?_) (fun c19 => absurd (nI_lt (by omega) (by omega)) c19)
    refine ez_aload_n (i := 0) dX11_cake_101 rfl rfl ?_
    refine ez_iload_n (i := 2) dX11_cake_102 rfl rfl ?_
    refine ez_iload_n (i := 1) dX11_cake_103 rfl rfl ?_
    refine ez_iconst (v := 1) dX11_cake_104 (by decide) ?_
    refine ez_icmp_le (tgt := 112) dX11_cake_105 (by decide) (fun c20 => ?_) (fun c20 => absurd (by decide) c20)
    refine ez_iconst (v := 0) dX11_cake_112 (by decide) ?_
    refine ez_iload_n (i := 1) dX11_cake_113 rfl rfl ?_
    refine ez_iconst (v := 2) dX11_cake_114 (by decide) ?_
    refine ez_icmp_le (tgt := 122) dX11_cake_115 (by decide) (fun c21 => ?_) (fun c21 => absurd (by decide) c21)
    refine ez_iconst (v := 0) dX11_cake_122 (by decide) ?_
    refine ez_callV (M1 := mX11_pieceOf) (rest := []) dX11_cake_123 mlX11_364 mvX11_pieceOf rfl (hF.lt (by decide)) (hF.kc (by decide) rfl) (Nat.le_of_ble_eq_true rfl) rfl (y_X11_pieceOf (I := Ia) (L := La) (d + 394) hQ0 hO hH (ca := n0) (cb := 0) (cc := 0) (by omega) (by omega)) (fun _ _ h => Or.inl (by obtain ⟨_, I1, g1, h, _⟩ := h; rw [h])) ?_
    rintro _ _ ⟨rfl, I22, gp24, rfl, hQ23, hgp25⟩
    rw [zpie_cg (by omega) (by omega) (fun x1 y1 z1 q1 q2 q3 q4 => hex x1 y1 z1 q1 q2 q3 (Or.inl (by unfold zl3 at q4; omega)))]
    show ez_P _ _ _ _ _ _ 126 [(3, .int (nI (n0 + 1))), (0, .ref 112), (1, .int 1), (2, .int (nI n0))] (.int (zon (zpie zct1 n0 0 0)) :: []) (n, sl, kd, I22, La, Rf) _
    have hQ23 : zQ n kd I L Rf gp24 I22 La T (I 124) oa := hQ23
    refine ez_istore_n (l' := [(3, .int (zon (zpie zct1 n0 0 0))), (0, .ref 112), (1, .int 1), (2, .int (nI n0))]) dX11_cake_126 rfl (by decide) rfl ?_
    refine ez_iload_n (i := 3) dX11_cake_127 rfl rfl ?_
    refine ez_iconst (v := (-1)) dX11_cake_128 (by decide) ?_
    refine ez_icmp_ne (tgt := 137) dX11_cake_129 (by decide) (fun c26 => ?_) (fun c26 => ?_)
    · skip
      refine ez_iload_n (i := 3) dX11_cake_137 rfl rfl ?_
      refine ez_iret dX11_cake_138 rfl rfl ?_
      rw [show s_cake T 1 (nI n0) = (zon (zpie zct1 n0 0 0), T) from by unfold s_cake; rw [if_pos ⟨by decide, z_n19 (N := 7) hn1 hn (by decide)⟩, nI_clamp (by omega), show (1 : Int32).toNatClampNeg = 1 from by decide]; show (zcr3 (zpie zct1 n0 0 0), T) = _; cases e : (zpie zct1 n0 0 0) with | none => exact absurd ((zon_no (fun t ht => zpie_lt ht (by omega))).mpr e) c26 | some q => rfl]
      exact hQ23.end
    · skip
      refine ez_bipush (v := (-2)) dX11_cake_132 (by decide) ?_
      refine ez_goto (tgt := 138) dX11_cake_134 (by decide) ?_
      refine ez_iret dX11_cake_138 rfl rfl ?_
      rw [show s_cake T 1 (nI n0) = ((-2), T) from by unfold s_cake; rw [if_pos ⟨by decide, z_n19 (N := 7) hn1 hn (by decide)⟩, nI_clamp (by omega), show (1 : Int32).toNatClampNeg = 1 from by decide]; show (zcr3 (zpie zct1 n0 0 0), T) = _; rw [(zon_no (fun t ht => zpie_lt ht (by omega))).mp (Classical.not_not.mp c26)]; rfl]
      exact hQ23.end
theorem y_X11_cake_2 {n : Nat} {sl : Nat × Nat} {kd : Nat → Nat × Nat} {I : Nat → Nat → Int32} {L : Nat → Nat → Int64} {Rf : Nat → Nat → Option Nat} (d : Nat) {T : zT} {H : Nat} (hM : zM n kd I L Rf T) (hO : zOk H T) (hH : H ≤ 1000000000) {n0 : Nat} (hn1 : 1 ≤ n0) (hn : n0 ≤ 7)  : zq mX11_cake (d + 400) [.ref 112, .int 2, .int (nI n0)] (n, sl, kd, I, L, Rf) (zpM n sl kd I L Rf (some (.int (s_cake T 2 (nI n0)).1)) (s_cake T 2 (nI n0)).2) := by
  have hF := hM.F; have hc7 := hO.c
  intro f B
  refine ez_meth pn_X.2.2.2.2.2.2.2.2.2.2.2 (Nat.le_of_ble_eq_true rfl) ?_
  show ez_P _ _ _ _ _ _ 0 [(0, .ref 112), (1, .int 2), (2, .int (nI n0))] [] (n, sl, kd, I, L, Rf) _
  refine ez_aload_n (i := 0) dX11_cake_0 rfl rfl ?_
  refine ez_iconst (v := 0) dX11_cake_1 (by decide) ?_
  refine ez_pI dX11_cake_2 plX11_89 (hF.lt (by decide)) (hF.lx (by decide)) (hF.kc (by decide) rfl) rfl rfl ?_
  refine ez_nmI (fun I1 hI1 => ?_)
  have hQ2 : zQ n kd I L Rf I I1 L T (I 124) (I 112 25) := by rw [hI1]; exact zQ.start hM
  refine ez_iload_n (i := 1) dX11_cake_5 rfl rfl ?_
  refine ez_iconst (v := 1) dX11_cake_6 (by decide) ?_
  refine ez_iconst (v := 3) dX11_cake_7 (by decide) ?_
  refine ez_callS (M1 := mX11_in) (rest := []) dX11_cake_8 mlX11_98 msX11_in rfl (Nat.le_of_ble_eq_true rfl) rfl (zq_b1 (by decide) (zq_b (q_X11_in (d + 399) 2 1 3) (n, sl, kd, I1, L, Rf))) eb_rok ?_
  rintro _ _ ⟨rfl, rfl⟩
  show ez_P _ _ _ _ _ _ 11 [(0, .ref 112), (1, .int 2), (2, .int (nI n0))] (.int 1 :: []) _ _
  refine ez_if_eq (tgt := 24) dX11_cake_11 (by decide) (fun c3 => absurd c3 (by decide)) (fun c3 => ?_)
  refine ez_iload_n (i := 2) dX11_cake_14 rfl rfl ?_
  refine ez_iconst (v := 1) dX11_cake_15 (by decide) ?_
  refine ez_bipush (v := 7) dX11_cake_16 (by decide) ?_
  refine ez_callS (M1 := mX11_in) (rest := []) dX11_cake_18 mlX11_98 msX11_in rfl (Nat.le_of_ble_eq_true rfl) rfl (zq_b1 (z_n19 (N := 7) hn1 hn (by decide)) (zq_b (q_X11_in (d + 399) (nI n0) 1 7) (n, sl, kd, I1, L, Rf))) eb_rok ?_
  rintro _ _ ⟨rfl, rfl⟩
  show ez_P _ _ _ _ _ _ 21 [(0, .ref 112), (1, .int 2), (2, .int (nI n0))] (.int 1 :: []) _ _
  refine ez_if_ne (tgt := 26) dX11_cake_21 (by decide) (fun c4 => ?_) (fun c4 => absurd (by decide) c4)
  refine ez_iconst (v := 1) dX11_cake_26 (by decide) ?_
  refine ez_istore_n (l' := [(3, .int 1), (0, .ref 112), (1, .int 2), (2, .int (nI n0))]) dX11_cake_27 rfl (by decide) rfl ?_
  refine ez_eq (l2 := [(3, .int (nI (0 + 1))), (0, .ref 112), (1, .int 2), (2, .int (nI n0))]) (σ2 := (n, sl, kd, I1, L, Rf)) rfl rfl rfl rfl ?_
  refine ez_for n0 (fun k (a : (Nat → Nat → Int32) × (Nat → Nat → Int64) × Int32 × (Nat → Nat → Int32)) => ([(3, .int (nI (k + 1))), (0, .ref 112), (1, .int 2), (2, .int (nI n0))], (n, sl, kd, a.1, a.2.1, Rf))) (fun k a => zQ n kd I L Rf a.2.2.2 a.1 a.2.1 T (I 124) a.2.2.1 ∧ ztk (a.2.2.2 132) (k + 1) 0 0) ?_ ?_ n0 0 (I1, L, I 112 25, I) (by omega) ⟨hQ2, (fun x1 y1 z1 q1 q2 q3 q4 => by unfold zl3 at q4; omega)⟩
  · rintro k ⟨Ia, La, oa, ga⟩ hk ⟨hQ0, hex⟩ ih
    have hQ0 : zQ n kd I L Rf ga Ia La T (I 124) oa := hQ0
    have hex : ztk (ga 132) (k + 1) 0 0 := hex
    show ez_P _ _ _ _ _ _ 28 [(3, .int (nI (k + 1))), (0, .ref 112), (1, .int 2), (2, .int (nI n0))] [] (n, sl, kd, Ia, La, Rf) _
    refine ez_iload_n (i := 3) dX11_cake_28 rfl rfl ?_
    refine ez_iload_n (i := 2) dX11_cake_29 rfl rfl ?_
    refine ez_icmp_gt (tgt := 101) dX11_cake_30 (by decide) (fun c5 => absurd c5 (Int32.not_lt.mpr (nI_le (by omega) (by omega)))) (fun c5 => ?_)
    refine ez_iconst (v := 0) dX11_cake_33 (by decide) ?_
    refine ez_istore (l' := [(4, .int 0), (3, .int (nI (k + 1))), (0, .ref 112), (1, .int 2), (2, .int (nI n0))]) dX11_cake_34 (by decide) rfl ?_
    refine ez_eq (l2 := [(4, .int (nI 0)), (3, .int (nI (k + 1))), (0, .ref 112), (1, .int 2), (2, .int (nI n0))]) (σ2 := (n, sl, kd, Ia, La, Rf)) rfl rfl rfl rfl ?_
    refine ez_for (k + 1 + 1) (fun j (a : (Nat → Nat → Int32) × (Nat → Nat → Int64) × Int32 × (Nat → Nat → Int32)) => ([(4, .int (nI j)), (3, .int (nI (k + 1))), (0, .ref 112), (1, .int 2), (2, .int (nI n0))], (n, sl, kd, a.1, a.2.1, Rf))) (fun j a => zQ n kd I L Rf a.2.2.2 a.1 a.2.1 T (I 124) a.2.2.1 ∧ ztk (a.2.2.2 132) (k + 1) j 0) ?_ ?_ (k + 1 + 1) 0 (Ia, La, oa, ga) (by omega) ⟨hQ0, hex⟩
    · rintro j ⟨Ia2, La2, oa2, gb⟩ hk2 ⟨hQ02, hex2⟩ ih2
      have hQ02 : zQ n kd I L Rf gb Ia2 La2 T (I 124) oa2 := hQ02
      have hex2 : ztk (gb 132) (k + 1) j 0 := hex2
      show ez_P _ _ _ _ _ _ 36 [(4, .int (nI j)), (3, .int (nI (k + 1))), (0, .ref 112), (1, .int 2), (2, .int (nI n0))] [] (n, sl, kd, Ia2, La2, Rf) _
      refine ez_iload (i := 4) dX11_cake_36 rfl ?_
      refine ez_iload_n (i := 3) dX11_cake_38 rfl rfl ?_
      refine ez_icmp_gt (tgt := 95) dX11_cake_39 (by decide) (fun c6 => absurd c6 (Int32.not_lt.mpr (nI_le (by omega) (by omega)))) (fun c6 => ?_)
      refine ez_iconst (v := 0) dX11_cake_42 (by decide) ?_
      refine ez_istore (l' := [(5, .int 0), (4, .int (nI j)), (3, .int (nI (k + 1))), (0, .ref 112), (1, .int 2), (2, .int (nI n0))]) dX11_cake_43 (by decide) rfl ?_
      refine ez_eq (l2 := [(5, .int (nI 0)), (4, .int (nI j)), (3, .int (nI (k + 1))), (0, .ref 112), (1, .int 2), (2, .int (nI n0))]) (σ2 := (n, sl, kd, Ia2, La2, Rf)) rfl rfl rfl rfl ?_
      refine ez_for (j + 1) (fun i (a : (Nat → Nat → Int32) × (Nat → Nat → Int64) × Int32 × (Nat → Nat → Int32)) => ([(5, .int (nI i)), (4, .int (nI j)), (3, .int (nI (k + 1))), (0, .ref 112), (1, .int 2), (2, .int (nI n0))], (n, sl, kd, a.1, a.2.1, Rf))) (fun i a => zQ n kd I L Rf a.2.2.2 a.1 a.2.1 T (I 124) a.2.2.1 ∧ ztk (a.2.2.2 132) (k + 1) j i) ?_ ?_ (j + 1) 0 (Ia2, La2, oa2, gb) (by omega) ⟨hQ02, hex2⟩
      · rintro i ⟨Ia3, La3, oa3, gc⟩ hk3 ⟨hQ03, hex3⟩ ih3
        have hQ03 : zQ n kd I L Rf gc Ia3 La3 T (I 124) oa3 := hQ03
        have hex3 : ztk (gc 132) (k + 1) j i := hex3
        show ez_P _ _ _ _ _ _ 45 [(5, .int (nI i)), (4, .int (nI j)), (3, .int (nI (k + 1))), (0, .ref 112), (1, .int 2), (2, .int (nI n0))] [] (n, sl, kd, Ia3, La3, Rf) _
        refine ez_iload (i := 5) dX11_cake_45 rfl ?_
        refine ez_iload (i := 4) dX11_cake_47 rfl ?_
        refine ez_icmp_gt (tgt := 89) dX11_cake_49 (by decide) (fun c7 => absurd c7 (Int32.not_lt.mpr (nI_le (by omega) (by omega)))) (fun c7 => ?_)
        refine ez_aload_n (i := 0) dX11_cake_52 rfl rfl ?_
        refine ez_getR dX11_cake_53 flX11_73 (hF.lt (by decide)) (hF.kc (by decide) rfl) (hF.pt 125 rfl) ?_
        refine ez_iload_n (i := 3) dX11_cake_56 rfl rfl ?_
        refine ez_iload (i := 4) dX11_cake_57 rfl ?_
        refine ez_iload (i := 5) dX11_cake_59 rfl ?_
        refine ez_callS (M1 := mX11_cakeOf) (rest := [.ref 132]) dX11_cake_61 mlX11_361 msX11_cakeOf rfl (Nat.le_of_ble_eq_true rfl) rfl (y_cakeOf (I := Ia3) (L := La3) (d + 399) (k + 1) j i) eb_rok ?_
        rintro _ _ ⟨rfl, rfl⟩
        show ez_P _ _ _ _ _ _ 64 [(5, .int (nI i)), (4, .int (nI j)), (3, .int (nI (k + 1))), (0, .ref 112), (1, .int 2), (2, .int (nI n0))] (.int (nI (64 * (k + 1) + 8 * j + i)) :: [.ref 132]) _ _
        refine ez_aload_n (i := 0) dX11_cake_64 rfl rfl ?_
        refine ez_iload_n (i := 3) dX11_cake_65 rfl rfl ?_
        refine ez_iload (i := 4) dX11_cake_66 rfl ?_
        refine ez_iload (i := 5) dX11_cake_68 rfl ?_
        refine ez_callV (M1 := mX11_pieceOf) (rest := [.int (nI (64 * (k + 1) + 8 * j + i)), .ref 132]) dX11_cake_70 mlX11_364 mvX11_pieceOf rfl (hF.lt (by decide)) (hF.kc (by decide) rfl) (Nat.le_of_ble_eq_true rfl) rfl (y_X11_pieceOf (I := Ia3) (L := La3) (d + 394) hQ03 hO hH (ca := (k + 1)) (cb := j) (cc := i) (by omega) (by omega)) (fun _ _ h => Or.inl (by obtain ⟨_, I1, g1, h, _⟩ := h; rw [h])) ?_
        rintro _ _ ⟨rfl, I8, gp10, rfl, hQ9, hgp11⟩
        rw [zpie_cg (by omega) (by omega) hex3]
        show ez_P _ _ _ _ _ _ 73 [(5, .int (nI i)), (4, .int (nI j)), (3, .int (nI (k + 1))), (0, .ref 112), (1, .int 2), (2, .int (nI n0))] (.int (zon (zpie zct1 (k + 1) j i)) :: [.int (nI (64 * (k + 1) + 8 * j + i)), .ref 132]) (n, sl, kd, I8, La3, Rf) _
        have hQ9 : zQ n kd I L Rf gp10 I8 La3 T (I 124) oa3 := hQ9
        refine ez_iconst (v := (-1)) dX11_cake_73 (by decide) ?_
        refine ez_icmp_ne (tgt := 81) dX11_cake_74 (by decide) (fun c12 => ?_) (fun c12 => ?_)
        · skip
          refine ez_iconst (v := 0) dX11_cake_81 (by decide) ?_
          refine ez_zsN (k := (64 * (k + 1) + 8 * j + i)) dX11_cake_82 (hF.lt (by decide)) (hF.lx (by decide)) (hF.ka (by decide) rfl) (by omega) (by decide) ?_
          refine ez_nmI (fun I13 hI13 => ?_)
          have hQ14 : zQ n kd I L Rf (z_set gp10 132 (64 * (k + 1) + 8 * j + i) (vp_nar .boolean 0)) I13 La3 T (I 124) oa3 := by rw [hI13]; exact hQ9.gset (by unfold zgc; omega)
          refine ez_iinc (v := (nI (i + 1))) (l' := [(5, .int ((nI (i + 1)))), (4, .int (nI j)), (3, .int (nI (k + 1))), (0, .ref 112), (1, .int 2), (2, .int (nI n0))]) dX11_cake_83 rfl (nI_1 _) (by decide) rfl ?_
          refine ez_goto (tgt := 45) dX11_cake_86 (by decide) ?_
          have hnew : ztk ((z_set gp10 132 (64 * (k + 1) + 8 * j + i) (vp_nar .boolean 0)) 132) (k + 1) j (i + 1) := by
            intro x1 y1 z1 q1 q2 q3 q4
            by_cases e : 64 * x1 + 8 * y1 + z1 = 64 * (k + 1) + 8 * j + i
            · have e1 : x1 = k + 1 ∧ y1 = j ∧ z1 = i := by unfold zl3 at q4; omega
              rw [e, z_set_at]
              exact ((zpie_k (x := k + 1) (y := j) (z := i) (by omega) (by omega) (by omega) (by omega)).2 (fun g => c12 ((zon_no (fun t ht => zpie_lt ht (by omega))).mpr g))).symm
            · rw [z_set_nk e, hgp11]; exact hex3 x1 y1 z1 q1 q2 q3 (by unfold zl3 at q4 ⊢; omega)
          exact ez_eq (l2 := [(5, .int (nI (i + 1))), (4, .int (nI j)), (3, .int (nI (k + 1))), (0, .ref 112), (1, .int 2), (2, .int (nI n0))]) rfl rfl rfl rfl (ih3 (I13, La3, oa3, z_set gp10 132 (64 * (k + 1) + 8 * j + i) (vp_nar .boolean 0)) ⟨hQ14, hnew⟩)
        · skip
          refine ez_iconst (v := 1) dX11_cake_77 (by decide) ?_
          refine ez_goto (tgt := 82) dX11_cake_78 (by decide) ?_
          refine ez_zsN (k := (64 * (k + 1) + 8 * j + i)) dX11_cake_82 (hF.lt (by decide)) (hF.lx (by decide)) (hF.ka (by decide) rfl) (by omega) (by decide) ?_
          refine ez_nmI (fun I15 hI15 => ?_)
          have hQ16 : zQ n kd I L Rf (z_set gp10 132 (64 * (k + 1) + 8 * j + i) (vp_nar .boolean 1)) I15 La3 T (I 124) oa3 := by rw [hI15]; exact hQ9.gset (by unfold zgc; omega)
          refine ez_iinc (v := (nI (i + 1))) (l' := [(5, .int ((nI (i + 1)))), (4, .int (nI j)), (3, .int (nI (k + 1))), (0, .ref 112), (1, .int 2), (2, .int (nI n0))]) dX11_cake_83 rfl (nI_1 _) (by decide) rfl ?_
          refine ez_goto (tgt := 45) dX11_cake_86 (by decide) ?_
          have hnew : ztk ((z_set gp10 132 (64 * (k + 1) + 8 * j + i) (vp_nar .boolean 1)) 132) (k + 1) j (i + 1) := by
            intro x1 y1 z1 q1 q2 q3 q4
            by_cases e : 64 * x1 + 8 * y1 + z1 = 64 * (k + 1) + 8 * j + i
            · have e1 : x1 = k + 1 ∧ y1 = j ∧ z1 = i := by unfold zl3 at q4; omega
              rw [e, z_set_at]
              exact ((zpie_k (x := k + 1) (y := j) (z := i) (by omega) (by omega) (by omega) (by omega)).1 ((zon_no (fun t ht => zpie_lt ht (by omega))).mp (Classical.not_not.mp c12))).symm
            · rw [z_set_nk e, hgp11]; exact hex3 x1 y1 z1 q1 q2 q3 (by unfold zl3 at q4 ⊢; omega)
          exact ez_eq (l2 := [(5, .int (nI (i + 1))), (4, .int (nI j)), (3, .int (nI (k + 1))), (0, .ref 112), (1, .int 2), (2, .int (nI n0))]) rfl rfl rfl rfl (ih3 (I15, La3, oa3, z_set gp10 132 (64 * (k + 1) + 8 * j + i) (vp_nar .boolean 1)) ⟨hQ16, hnew⟩)
      · rintro ⟨Ia3, La3, oa3, gc⟩ ⟨hQ03, hex3⟩
        have hQ03 : zQ n kd I L Rf gc Ia3 La3 T (I 124) oa3 := hQ03
        have hex3 : ztk (gc 132) (k + 1) j (j + 1) := hex3
        show ez_P _ _ _ _ _ _ 45 [(5, .int (nI (j + 1))), (4, .int (nI j)), (3, .int (nI (k + 1))), (0, .ref 112), (1, .int 2), (2, .int (nI n0))] [] (n, sl, kd, Ia3, La3, Rf) _
        refine ez_iload (i := 5) dX11_cake_45 rfl ?_
        refine ez_iload (i := 4) dX11_cake_47 rfl ?_
        refine ez_icmp_gt (tgt := 89) dX11_cake_49 (by decide) (fun c17 => ?_) (fun c17 => absurd (nI_lt (by omega) (by omega)) c17)
        refine ez_iinc (v := (nI (j + 1))) (l' := [(4, .int ((nI (j + 1)))), (5, .int (nI (j + 1))), (3, .int (nI (k + 1))), (0, .ref 112), (1, .int 2), (2, .int (nI n0))]) dX11_cake_89 rfl (nI_1 _) (by decide) rfl ?_
        refine ez_goto (tgt := 36) dX11_cake_92 (by decide) ?_
        refine ez_sub (l' := [(4, .int ((nI (j + 1)))), (3, .int (nI (k + 1))), (0, .ref 112), (1, .int 2), (2, .int (nI n0))]) [0, 2, 3, 4, 5] rfl ?_
        exact ez_eq (l2 := [(4, .int (nI (j + 1))), (3, .int (nI (k + 1))), (0, .ref 112), (1, .int 2), (2, .int (nI n0))]) rfl rfl rfl rfl (ih2 (Ia3, La3, oa3, gc) ⟨hQ03, (fun x1 y1 z1 q1 q2 q3 q4 => hex3 x1 y1 z1 q1 q2 q3 (by unfold zl3 at q4 ⊢; omega))⟩)
    · rintro ⟨Ia2, La2, oa2, gb⟩ ⟨hQ02, hex2⟩
      have hQ02 : zQ n kd I L Rf gb Ia2 La2 T (I 124) oa2 := hQ02
      have hex2 : ztk (gb 132) (k + 1) (k + 1 + 1) 0 := hex2
      show ez_P _ _ _ _ _ _ 36 [(4, .int (nI (k + 1 + 1))), (3, .int (nI (k + 1))), (0, .ref 112), (1, .int 2), (2, .int (nI n0))] [] (n, sl, kd, Ia2, La2, Rf) _
      refine ez_iload (i := 4) dX11_cake_36 rfl ?_
      refine ez_iload_n (i := 3) dX11_cake_38 rfl rfl ?_
      refine ez_icmp_gt (tgt := 95) dX11_cake_39 (by decide) (fun c18 => ?_) (fun c18 => absurd (nI_lt (by omega) (by omega)) c18)
      refine ez_iinc (v := (nI (k + 2))) (l' := [(3, .int ((nI (k + 2)))), (4, .int (nI (k + 1 + 1))), (0, .ref 112), (1, .int 2), (2, .int (nI n0))]) dX11_cake_95 rfl (nI_1 _) (by decide) rfl ?_
      refine ez_goto (tgt := 28) dX11_cake_98 (by decide) ?_
      refine ez_sub (l' := [(3, .int ((nI (k + 2)))), (0, .ref 112), (1, .int 2), (2, .int (nI n0))]) [0, 2, 3, 4] rfl ?_
      exact ez_eq (l2 := [(3, .int (nI (k + 1 + 1))), (0, .ref 112), (1, .int 2), (2, .int (nI n0))]) rfl rfl rfl rfl (ih (Ia2, La2, oa2, gb) ⟨hQ02, (fun x1 y1 z1 q1 q2 q3 q4 => hex2 x1 y1 z1 q1 q2 q3 (by unfold zl3 at q4 ⊢; omega))⟩)
  · rintro ⟨Ia, La, oa, ga⟩ ⟨hQ0, hex⟩
    have hQ0 : zQ n kd I L Rf ga Ia La T (I 124) oa := hQ0
    have hex : ztk (ga 132) (n0 + 1) 0 0 := hex
    show ez_P _ _ _ _ _ _ 28 [(3, .int (nI (n0 + 1))), (0, .ref 112), (1, .int 2), (2, .int (nI n0))] [] (n, sl, kd, Ia, La, Rf) _
    refine ez_iload_n (i := 3) dX11_cake_28 rfl rfl ?_
    refine ez_iload_n (i := 2) dX11_cake_29 rfl rfl ?_
    refine ez_icmp_gt (tgt := 101) dX11_cake_30 (by decide) (fun c19 => ?_) (fun c19 => absurd (nI_lt (by omega) (by omega)) c19)
    refine ez_aload_n (i := 0) dX11_cake_101 rfl rfl ?_
    refine ez_iload_n (i := 2) dX11_cake_102 rfl rfl ?_
    refine ez_iload_n (i := 1) dX11_cake_103 rfl rfl ?_
    refine ez_iconst (v := 1) dX11_cake_104 (by decide) ?_
    refine ez_icmp_le (tgt := 112) dX11_cake_105 (by decide) (fun c20 => absurd c20 (by decide)) (fun c20 => ?_)
    refine ez_iload_n (i := 2) dX11_cake_108 rfl rfl ?_
    refine ez_goto (tgt := 113) dX11_cake_109 (by decide) ?_
    refine ez_iload_n (i := 1) dX11_cake_113 rfl rfl ?_
    refine ez_iconst (v := 2) dX11_cake_114 (by decide) ?_
    refine ez_icmp_le (tgt := 122) dX11_cake_115 (by decide) (fun c21 => ?_) (fun c21 => absurd (by decide) c21)
    refine ez_iconst (v := 0) dX11_cake_122 (by decide) ?_
    refine ez_callV (M1 := mX11_pieceOf) (rest := []) dX11_cake_123 mlX11_364 mvX11_pieceOf rfl (hF.lt (by decide)) (hF.kc (by decide) rfl) (Nat.le_of_ble_eq_true rfl) rfl (y_X11_pieceOf (I := Ia) (L := La) (d + 394) hQ0 hO hH (ca := n0) (cb := n0) (cc := 0) (by omega) (by omega)) (fun _ _ h => Or.inl (by obtain ⟨_, I1, g1, h, _⟩ := h; rw [h])) ?_
    rintro _ _ ⟨rfl, I22, gp24, rfl, hQ23, hgp25⟩
    rw [zpie_cg (by omega) (by omega) (fun x1 y1 z1 q1 q2 q3 q4 => hex x1 y1 z1 q1 q2 q3 (Or.inl (by unfold zl3 at q4; omega)))]
    show ez_P _ _ _ _ _ _ 126 [(3, .int (nI (n0 + 1))), (0, .ref 112), (1, .int 2), (2, .int (nI n0))] (.int (zon (zpie zct1 n0 n0 0)) :: []) (n, sl, kd, I22, La, Rf) _
    have hQ23 : zQ n kd I L Rf gp24 I22 La T (I 124) oa := hQ23
    refine ez_istore_n (l' := [(3, .int (zon (zpie zct1 n0 n0 0))), (0, .ref 112), (1, .int 2), (2, .int (nI n0))]) dX11_cake_126 rfl (by decide) rfl ?_
    refine ez_iload_n (i := 3) dX11_cake_127 rfl rfl ?_
    refine ez_iconst (v := (-1)) dX11_cake_128 (by decide) ?_
    refine ez_icmp_ne (tgt := 137) dX11_cake_129 (by decide) (fun c26 => ?_) (fun c26 => ?_)
    · skip
      refine ez_iload_n (i := 3) dX11_cake_137 rfl rfl ?_
      refine ez_iret dX11_cake_138 rfl rfl ?_
      rw [show s_cake T 2 (nI n0) = (zon (zpie zct1 n0 n0 0), T) from by unfold s_cake; rw [if_pos ⟨by decide, z_n19 (N := 7) hn1 hn (by decide)⟩, nI_clamp (by omega), show (2 : Int32).toNatClampNeg = 2 from by decide]; show (zcr3 (zpie zct1 n0 n0 0), T) = _; cases e : (zpie zct1 n0 n0 0) with | none => exact absurd ((zon_no (fun t ht => zpie_lt ht (by omega))).mpr e) c26 | some q => rfl]
      exact hQ23.end
    · skip
      refine ez_bipush (v := (-2)) dX11_cake_132 (by decide) ?_
      refine ez_goto (tgt := 138) dX11_cake_134 (by decide) ?_
      refine ez_iret dX11_cake_138 rfl rfl ?_
      rw [show s_cake T 2 (nI n0) = ((-2), T) from by unfold s_cake; rw [if_pos ⟨by decide, z_n19 (N := 7) hn1 hn (by decide)⟩, nI_clamp (by omega), show (2 : Int32).toNatClampNeg = 2 from by decide]; show (zcr3 (zpie zct1 n0 n0 0), T) = _; rw [(zon_no (fun t ht => zpie_lt ht (by omega))).mp (Classical.not_not.mp c26)]; rfl]
      exact hQ23.end
theorem y_X11_cake_3 {n : Nat} {sl : Nat × Nat} {kd : Nat → Nat × Nat} {I : Nat → Nat → Int32} {L : Nat → Nat → Int64} {Rf : Nat → Nat → Option Nat} (d : Nat) {T : zT} {H : Nat} (hM : zM n kd I L Rf T) (hO : zOk H T) (hH : H ≤ 1000000000) {n0 : Nat} (hn1 : 1 ≤ n0) (hn : n0 ≤ 7)  : zq mX11_cake (d + 400) [.ref 112, .int 3, .int (nI n0)] (n, sl, kd, I, L, Rf) (zpM n sl kd I L Rf (some (.int (s_cake T 3 (nI n0)).1)) (s_cake T 3 (nI n0)).2) := by
  have hF := hM.F; have hc7 := hO.c
  intro f B
  refine ez_meth pn_X.2.2.2.2.2.2.2.2.2.2.2 (Nat.le_of_ble_eq_true rfl) ?_
  show ez_P _ _ _ _ _ _ 0 [(0, .ref 112), (1, .int 3), (2, .int (nI n0))] [] (n, sl, kd, I, L, Rf) _
  refine ez_aload_n (i := 0) dX11_cake_0 rfl rfl ?_
  refine ez_iconst (v := 0) dX11_cake_1 (by decide) ?_
  refine ez_pI dX11_cake_2 plX11_89 (hF.lt (by decide)) (hF.lx (by decide)) (hF.kc (by decide) rfl) rfl rfl ?_
  refine ez_nmI (fun I1 hI1 => ?_)
  have hQ2 : zQ n kd I L Rf I I1 L T (I 124) (I 112 25) := by rw [hI1]; exact zQ.start hM
  refine ez_iload_n (i := 1) dX11_cake_5 rfl rfl ?_
  refine ez_iconst (v := 1) dX11_cake_6 (by decide) ?_
  refine ez_iconst (v := 3) dX11_cake_7 (by decide) ?_
  refine ez_callS (M1 := mX11_in) (rest := []) dX11_cake_8 mlX11_98 msX11_in rfl (Nat.le_of_ble_eq_true rfl) rfl (zq_b1 (by decide) (zq_b (q_X11_in (d + 399) 3 1 3) (n, sl, kd, I1, L, Rf))) eb_rok ?_
  rintro _ _ ⟨rfl, rfl⟩
  show ez_P _ _ _ _ _ _ 11 [(0, .ref 112), (1, .int 3), (2, .int (nI n0))] (.int 1 :: []) _ _
  refine ez_if_eq (tgt := 24) dX11_cake_11 (by decide) (fun c3 => absurd c3 (by decide)) (fun c3 => ?_)
  refine ez_iload_n (i := 2) dX11_cake_14 rfl rfl ?_
  refine ez_iconst (v := 1) dX11_cake_15 (by decide) ?_
  refine ez_bipush (v := 7) dX11_cake_16 (by decide) ?_
  refine ez_callS (M1 := mX11_in) (rest := []) dX11_cake_18 mlX11_98 msX11_in rfl (Nat.le_of_ble_eq_true rfl) rfl (zq_b1 (z_n19 (N := 7) hn1 hn (by decide)) (zq_b (q_X11_in (d + 399) (nI n0) 1 7) (n, sl, kd, I1, L, Rf))) eb_rok ?_
  rintro _ _ ⟨rfl, rfl⟩
  show ez_P _ _ _ _ _ _ 21 [(0, .ref 112), (1, .int 3), (2, .int (nI n0))] (.int 1 :: []) _ _
  refine ez_if_ne (tgt := 26) dX11_cake_21 (by decide) (fun c4 => ?_) (fun c4 => absurd (by decide) c4)
  refine ez_iconst (v := 1) dX11_cake_26 (by decide) ?_
  refine ez_istore_n (l' := [(3, .int 1), (0, .ref 112), (1, .int 3), (2, .int (nI n0))]) dX11_cake_27 rfl (by decide) rfl ?_
  refine ez_eq (l2 := [(3, .int (nI (0 + 1))), (0, .ref 112), (1, .int 3), (2, .int (nI n0))]) (σ2 := (n, sl, kd, I1, L, Rf)) rfl rfl rfl rfl ?_
  refine ez_for n0 (fun k (a : (Nat → Nat → Int32) × (Nat → Nat → Int64) × Int32 × (Nat → Nat → Int32)) => ([(3, .int (nI (k + 1))), (0, .ref 112), (1, .int 3), (2, .int (nI n0))], (n, sl, kd, a.1, a.2.1, Rf))) (fun k a => zQ n kd I L Rf a.2.2.2 a.1 a.2.1 T (I 124) a.2.2.1 ∧ ztk (a.2.2.2 132) (k + 1) 0 0) ?_ ?_ n0 0 (I1, L, I 112 25, I) (by omega) ⟨hQ2, (fun x1 y1 z1 q1 q2 q3 q4 => by unfold zl3 at q4; omega)⟩
  · rintro k ⟨Ia, La, oa, ga⟩ hk ⟨hQ0, hex⟩ ih
    have hQ0 : zQ n kd I L Rf ga Ia La T (I 124) oa := hQ0
    have hex : ztk (ga 132) (k + 1) 0 0 := hex
    show ez_P _ _ _ _ _ _ 28 [(3, .int (nI (k + 1))), (0, .ref 112), (1, .int 3), (2, .int (nI n0))] [] (n, sl, kd, Ia, La, Rf) _
    refine ez_iload_n (i := 3) dX11_cake_28 rfl rfl ?_
    refine ez_iload_n (i := 2) dX11_cake_29 rfl rfl ?_
    refine ez_icmp_gt (tgt := 101) dX11_cake_30 (by decide) (fun c5 => absurd c5 (Int32.not_lt.mpr (nI_le (by omega) (by omega)))) (fun c5 => ?_)
    refine ez_iconst (v := 0) dX11_cake_33 (by decide) ?_
    refine ez_istore (l' := [(4, .int 0), (3, .int (nI (k + 1))), (0, .ref 112), (1, .int 3), (2, .int (nI n0))]) dX11_cake_34 (by decide) rfl ?_
    refine ez_eq (l2 := [(4, .int (nI 0)), (3, .int (nI (k + 1))), (0, .ref 112), (1, .int 3), (2, .int (nI n0))]) (σ2 := (n, sl, kd, Ia, La, Rf)) rfl rfl rfl rfl ?_
    refine ez_for (k + 1 + 1) (fun j (a : (Nat → Nat → Int32) × (Nat → Nat → Int64) × Int32 × (Nat → Nat → Int32)) => ([(4, .int (nI j)), (3, .int (nI (k + 1))), (0, .ref 112), (1, .int 3), (2, .int (nI n0))], (n, sl, kd, a.1, a.2.1, Rf))) (fun j a => zQ n kd I L Rf a.2.2.2 a.1 a.2.1 T (I 124) a.2.2.1 ∧ ztk (a.2.2.2 132) (k + 1) j 0) ?_ ?_ (k + 1 + 1) 0 (Ia, La, oa, ga) (by omega) ⟨hQ0, hex⟩
    · rintro j ⟨Ia2, La2, oa2, gb⟩ hk2 ⟨hQ02, hex2⟩ ih2
      have hQ02 : zQ n kd I L Rf gb Ia2 La2 T (I 124) oa2 := hQ02
      have hex2 : ztk (gb 132) (k + 1) j 0 := hex2
      show ez_P _ _ _ _ _ _ 36 [(4, .int (nI j)), (3, .int (nI (k + 1))), (0, .ref 112), (1, .int 3), (2, .int (nI n0))] [] (n, sl, kd, Ia2, La2, Rf) _
      refine ez_iload (i := 4) dX11_cake_36 rfl ?_
      refine ez_iload_n (i := 3) dX11_cake_38 rfl rfl ?_
      refine ez_icmp_gt (tgt := 95) dX11_cake_39 (by decide) (fun c6 => absurd c6 (Int32.not_lt.mpr (nI_le (by omega) (by omega)))) (fun c6 => ?_)
      refine ez_iconst (v := 0) dX11_cake_42 (by decide) ?_
      refine ez_istore (l' := [(5, .int 0), (4, .int (nI j)), (3, .int (nI (k + 1))), (0, .ref 112), (1, .int 3), (2, .int (nI n0))]) dX11_cake_43 (by decide) rfl ?_
      refine ez_eq (l2 := [(5, .int (nI 0)), (4, .int (nI j)), (3, .int (nI (k + 1))), (0, .ref 112), (1, .int 3), (2, .int (nI n0))]) (σ2 := (n, sl, kd, Ia2, La2, Rf)) rfl rfl rfl rfl ?_
      refine ez_for (j + 1) (fun i (a : (Nat → Nat → Int32) × (Nat → Nat → Int64) × Int32 × (Nat → Nat → Int32)) => ([(5, .int (nI i)), (4, .int (nI j)), (3, .int (nI (k + 1))), (0, .ref 112), (1, .int 3), (2, .int (nI n0))], (n, sl, kd, a.1, a.2.1, Rf))) (fun i a => zQ n kd I L Rf a.2.2.2 a.1 a.2.1 T (I 124) a.2.2.1 ∧ ztk (a.2.2.2 132) (k + 1) j i) ?_ ?_ (j + 1) 0 (Ia2, La2, oa2, gb) (by omega) ⟨hQ02, hex2⟩
      · rintro i ⟨Ia3, La3, oa3, gc⟩ hk3 ⟨hQ03, hex3⟩ ih3
        have hQ03 : zQ n kd I L Rf gc Ia3 La3 T (I 124) oa3 := hQ03
        have hex3 : ztk (gc 132) (k + 1) j i := hex3
        show ez_P _ _ _ _ _ _ 45 [(5, .int (nI i)), (4, .int (nI j)), (3, .int (nI (k + 1))), (0, .ref 112), (1, .int 3), (2, .int (nI n0))] [] (n, sl, kd, Ia3, La3, Rf) _
        refine ez_iload (i := 5) dX11_cake_45 rfl ?_
        refine ez_iload (i := 4) dX11_cake_47 rfl ?_
        refine ez_icmp_gt (tgt := 89) dX11_cake_49 (by decide) (fun c7 => absurd c7 (Int32.not_lt.mpr (nI_le (by omega) (by omega)))) (fun c7 => ?_)
        refine ez_aload_n (i := 0) dX11_cake_52 rfl rfl ?_
        refine ez_getR dX11_cake_53 flX11_73 (hF.lt (by decide)) (hF.kc (by decide) rfl) (hF.pt 125 rfl) ?_
        refine ez_iload_n (i := 3) dX11_cake_56 rfl rfl ?_
        refine ez_iload (i := 4) dX11_cake_57 rfl ?_
        refine ez_iload (i := 5) dX11_cake_59 rfl ?_
        refine ez_callS (M1 := mX11_cakeOf) (rest := [.ref 132]) dX11_cake_61 mlX11_361 msX11_cakeOf rfl (Nat.le_of_ble_eq_true rfl) rfl (y_cakeOf (I := Ia3) (L := La3) (d + 399) (k + 1) j i) eb_rok ?_
        rintro _ _ ⟨rfl, rfl⟩
        show ez_P _ _ _ _ _ _ 64 [(5, .int (nI i)), (4, .int (nI j)), (3, .int (nI (k + 1))), (0, .ref 112), (1, .int 3), (2, .int (nI n0))] (.int (nI (64 * (k + 1) + 8 * j + i)) :: [.ref 132]) _ _
        refine ez_aload_n (i := 0) dX11_cake_64 rfl rfl ?_
        refine ez_iload_n (i := 3) dX11_cake_65 rfl rfl ?_
        refine ez_iload (i := 4) dX11_cake_66 rfl ?_
        refine ez_iload (i := 5) dX11_cake_68 rfl ?_
        refine ez_callV (M1 := mX11_pieceOf) (rest := [.int (nI (64 * (k + 1) + 8 * j + i)), .ref 132]) dX11_cake_70 mlX11_364 mvX11_pieceOf rfl (hF.lt (by decide)) (hF.kc (by decide) rfl) (Nat.le_of_ble_eq_true rfl) rfl (y_X11_pieceOf (I := Ia3) (L := La3) (d + 394) hQ03 hO hH (ca := (k + 1)) (cb := j) (cc := i) (by omega) (by omega)) (fun _ _ h => Or.inl (by obtain ⟨_, I1, g1, h, _⟩ := h; rw [h])) ?_
        rintro _ _ ⟨rfl, I8, gp10, rfl, hQ9, hgp11⟩
        rw [zpie_cg (by omega) (by omega) hex3]
        show ez_P _ _ _ _ _ _ 73 [(5, .int (nI i)), (4, .int (nI j)), (3, .int (nI (k + 1))), (0, .ref 112), (1, .int 3), (2, .int (nI n0))] (.int (zon (zpie zct1 (k + 1) j i)) :: [.int (nI (64 * (k + 1) + 8 * j + i)), .ref 132]) (n, sl, kd, I8, La3, Rf) _
        have hQ9 : zQ n kd I L Rf gp10 I8 La3 T (I 124) oa3 := hQ9
        refine ez_iconst (v := (-1)) dX11_cake_73 (by decide) ?_
        refine ez_icmp_ne (tgt := 81) dX11_cake_74 (by decide) (fun c12 => ?_) (fun c12 => ?_)
        · skip
          refine ez_iconst (v := 0) dX11_cake_81 (by decide) ?_
          refine ez_zsN (k := (64 * (k + 1) + 8 * j + i)) dX11_cake_82 (hF.lt (by decide)) (hF.lx (by decide)) (hF.ka (by decide) rfl) (by omega) (by decide) ?_
          refine ez_nmI (fun I13 hI13 => ?_)
          have hQ14 : zQ n kd I L Rf (z_set gp10 132 (64 * (k + 1) + 8 * j + i) (vp_nar .boolean 0)) I13 La3 T (I 124) oa3 := by rw [hI13]; exact hQ9.gset (by unfold zgc; omega)
          refine ez_iinc (v := (nI (i + 1))) (l' := [(5, .int ((nI (i + 1)))), (4, .int (nI j)), (3, .int (nI (k + 1))), (0, .ref 112), (1, .int 3), (2, .int (nI n0))]) dX11_cake_83 rfl (nI_1 _) (by decide) rfl ?_
          refine ez_goto (tgt := 45) dX11_cake_86 (by decide) ?_
          have hnew : ztk ((z_set gp10 132 (64 * (k + 1) + 8 * j + i) (vp_nar .boolean 0)) 132) (k + 1) j (i + 1) := by
            intro x1 y1 z1 q1 q2 q3 q4
            by_cases e : 64 * x1 + 8 * y1 + z1 = 64 * (k + 1) + 8 * j + i
            · have e1 : x1 = k + 1 ∧ y1 = j ∧ z1 = i := by unfold zl3 at q4; omega
              rw [e, z_set_at]
              exact ((zpie_k (x := k + 1) (y := j) (z := i) (by omega) (by omega) (by omega) (by omega)).2 (fun g => c12 ((zon_no (fun t ht => zpie_lt ht (by omega))).mpr g))).symm
            · rw [z_set_nk e, hgp11]; exact hex3 x1 y1 z1 q1 q2 q3 (by unfold zl3 at q4 ⊢; omega)
          exact ez_eq (l2 := [(5, .int (nI (i + 1))), (4, .int (nI j)), (3, .int (nI (k + 1))), (0, .ref 112), (1, .int 3), (2, .int (nI n0))]) rfl rfl rfl rfl (ih3 (I13, La3, oa3, z_set gp10 132 (64 * (k + 1) + 8 * j + i) (vp_nar .boolean 0)) ⟨hQ14, hnew⟩)
        · skip
          refine ez_iconst (v := 1) dX11_cake_77 (by decide) ?_
          refine ez_goto (tgt := 82) dX11_cake_78 (by decide) ?_
          refine ez_zsN (k := (64 * (k + 1) + 8 * j + i)) dX11_cake_82 (hF.lt (by decide)) (hF.lx (by decide)) (hF.ka (by decide) rfl) (by omega) (by decide) ?_
          refine ez_nmI (fun I15 hI15 => ?_)
          have hQ16 : zQ n kd I L Rf (z_set gp10 132 (64 * (k + 1) + 8 * j + i) (vp_nar .boolean 1)) I15 La3 T (I 124) oa3 := by rw [hI15]; exact hQ9.gset (by unfold zgc; omega)
          refine ez_iinc (v := (nI (i + 1))) (l' := [(5, .int ((nI (i + 1)))), (4, .int (nI j)), (3, .int (nI (k + 1))), (0, .ref 112), (1, .int 3), (2, .int (nI n0))]) dX11_cake_83 rfl (nI_1 _) (by decide) rfl ?_
          refine ez_goto (tgt := 45) dX11_cake_86 (by decide) ?_
          have hnew : ztk ((z_set gp10 132 (64 * (k + 1) + 8 * j + i) (vp_nar .boolean 1)) 132) (k + 1) j (i + 1) := by
            intro x1 y1 z1 q1 q2 q3 q4
            by_cases e : 64 * x1 + 8 * y1 + z1 = 64 * (k + 1) + 8 * j + i
            · have e1 : x1 = k + 1 ∧ y1 = j ∧ z1 = i := by unfold zl3 at q4; omega
              rw [e, z_set_at]
              exact ((zpie_k (x := k + 1) (y := j) (z := i) (by omega) (by omega) (by omega) (by omega)).1 ((zon_no (fun t ht => zpie_lt ht (by omega))).mp (Classical.not_not.mp c12))).symm
            · rw [z_set_nk e, hgp11]; exact hex3 x1 y1 z1 q1 q2 q3 (by unfold zl3 at q4 ⊢; omega)
          exact ez_eq (l2 := [(5, .int (nI (i + 1))), (4, .int (nI j)), (3, .int (nI (k + 1))), (0, .ref 112), (1, .int 3), (2, .int (nI n0))]) rfl rfl rfl rfl (ih3 (I15, La3, oa3, z_set gp10 132 (64 * (k + 1) + 8 * j + i) (vp_nar .boolean 1)) ⟨hQ16, hnew⟩)
      · rintro ⟨Ia3, La3, oa3, gc⟩ ⟨hQ03, hex3⟩
        have hQ03 : zQ n kd I L Rf gc Ia3 La3 T (I 124) oa3 := hQ03
        have hex3 : ztk (gc 132) (k + 1) j (j + 1) := hex3
        show ez_P _ _ _ _ _ _ 45 [(5, .int (nI (j + 1))), (4, .int (nI j)), (3, .int (nI (k + 1))), (0, .ref 112), (1, .int 3), (2, .int (nI n0))] [] (n, sl, kd, Ia3, La3, Rf) _
        refine ez_iload (i := 5) dX11_cake_45 rfl ?_
        refine ez_iload (i := 4) dX11_cake_47 rfl ?_
        refine ez_icmp_gt (tgt := 89) dX11_cake_49 (by decide) (fun c17 => ?_) (fun c17 => absurd (nI_lt (by omega) (by omega)) c17)
        refine ez_iinc (v := (nI (j + 1))) (l' := [(4, .int ((nI (j + 1)))), (5, .int (nI (j + 1))), (3, .int (nI (k + 1))), (0, .ref 112), (1, .int 3), (2, .int (nI n0))]) dX11_cake_89 rfl (nI_1 _) (by decide) rfl ?_
        refine ez_goto (tgt := 36) dX11_cake_92 (by decide) ?_
        refine ez_sub (l' := [(4, .int ((nI (j + 1)))), (3, .int (nI (k + 1))), (0, .ref 112), (1, .int 3), (2, .int (nI n0))]) [0, 2, 3, 4, 5] rfl ?_
        exact ez_eq (l2 := [(4, .int (nI (j + 1))), (3, .int (nI (k + 1))), (0, .ref 112), (1, .int 3), (2, .int (nI n0))]) rfl rfl rfl rfl (ih2 (Ia3, La3, oa3, gc) ⟨hQ03, (fun x1 y1 z1 q1 q2 q3 q4 => hex3 x1 y1 z1 q1 q2 q3 (by unfold zl3 at q4 ⊢; omega))⟩)
    · rintro ⟨Ia2, La2, oa2, gb⟩ ⟨hQ02, hex2⟩
      have hQ02 : zQ n kd I L Rf gb Ia2 La2 T (I 124) oa2 := hQ02
      have hex2 : ztk (gb 132) (k + 1) (k + 1 + 1) 0 := hex2
      show ez_P _ _ _ _ _ _ 36 [(4, .int (nI (k + 1 + 1))), (3, .int (nI (k + 1))), (0, .ref 112), (1, .int 3), (2, .int (nI n0))] [] (n, sl, kd, Ia2, La2, Rf) _
      refine ez_iload (i := 4) dX11_cake_36 rfl ?_
      refine ez_iload_n (i := 3) dX11_cake_38 rfl rfl ?_
      refine ez_icmp_gt (tgt := 95) dX11_cake_39 (by decide) (fun c18 => ?_) (fun c18 => absurd (nI_lt (by omega) (by omega)) c18)
      refine ez_iinc (v := (nI (k + 2))) (l' := [(3, .int ((nI (k + 2)))), (4, .int (nI (k + 1 + 1))), (0, .ref 112), (1, .int 3), (2, .int (nI n0))]) dX11_cake_95 rfl (nI_1 _) (by decide) rfl ?_
      refine ez_goto (tgt := 28) dX11_cake_98 (by decide) ?_
      refine ez_sub (l' := [(3, .int ((nI (k + 2)))), (0, .ref 112), (1, .int 3), (2, .int (nI n0))]) [0, 2, 3, 4] rfl ?_
      exact ez_eq (l2 := [(3, .int (nI (k + 1 + 1))), (0, .ref 112), (1, .int 3), (2, .int (nI n0))]) rfl rfl rfl rfl (ih (Ia2, La2, oa2, gb) ⟨hQ02, (fun x1 y1 z1 q1 q2 q3 q4 => hex2 x1 y1 z1 q1 q2 q3 (by unfold zl3 at q4 ⊢; omega))⟩)
  · rintro ⟨Ia, La, oa, ga⟩ ⟨hQ0, hex⟩
    have hQ0 : zQ n kd I L Rf ga Ia La T (I 124) oa := hQ0
    have hex : ztk (ga 132) (n0 + 1) 0 0 := hex
    show ez_P _ _ _ _ _ _ 28 [(3, .int (nI (n0 + 1))), (0, .ref 112), (1, .int 3), (2, .int (nI n0))] [] (n, sl, kd, Ia, La, Rf) _
    refine ez_iload_n (i := 3) dX11_cake_28 rfl rfl ?_
    refine ez_iload_n (i := 2) dX11_cake_29 rfl rfl ?_
    refine ez_icmp_gt (tgt := 101) dX11_cake_30 (by decide) (fun c19 => ?_) (fun c19 => absurd (nI_lt (by omega) (by omega)) c19)
    refine ez_aload_n (i := 0) dX11_cake_101 rfl rfl ?_
    refine ez_iload_n (i := 2) dX11_cake_102 rfl rfl ?_
    refine ez_iload_n (i := 1) dX11_cake_103 rfl rfl ?_
    refine ez_iconst (v := 1) dX11_cake_104 (by decide) ?_
    refine ez_icmp_le (tgt := 112) dX11_cake_105 (by decide) (fun c20 => absurd c20 (by decide)) (fun c20 => ?_)
    refine ez_iload_n (i := 2) dX11_cake_108 rfl rfl ?_
    refine ez_goto (tgt := 113) dX11_cake_109 (by decide) ?_
    refine ez_iload_n (i := 1) dX11_cake_113 rfl rfl ?_
    refine ez_iconst (v := 2) dX11_cake_114 (by decide) ?_
    refine ez_icmp_le (tgt := 122) dX11_cake_115 (by decide) (fun c21 => absurd c21 (by decide)) (fun c21 => ?_)
    refine ez_iload_n (i := 2) dX11_cake_118 rfl rfl ?_
    refine ez_goto (tgt := 123) dX11_cake_119 (by decide) ?_
    refine ez_callV (M1 := mX11_pieceOf) (rest := []) dX11_cake_123 mlX11_364 mvX11_pieceOf rfl (hF.lt (by decide)) (hF.kc (by decide) rfl) (Nat.le_of_ble_eq_true rfl) rfl (y_X11_pieceOf (I := Ia) (L := La) (d + 394) hQ0 hO hH (ca := n0) (cb := n0) (cc := n0) (by omega) (by omega)) (fun _ _ h => Or.inl (by obtain ⟨_, I1, g1, h, _⟩ := h; rw [h])) ?_
    rintro _ _ ⟨rfl, I22, gp24, rfl, hQ23, hgp25⟩
    rw [zpie_cg (by omega) (by omega) (fun x1 y1 z1 q1 q2 q3 q4 => hex x1 y1 z1 q1 q2 q3 (Or.inl (by unfold zl3 at q4; omega)))]
    show ez_P _ _ _ _ _ _ 126 [(3, .int (nI (n0 + 1))), (0, .ref 112), (1, .int 3), (2, .int (nI n0))] (.int (zon (zpie zct1 n0 n0 n0)) :: []) (n, sl, kd, I22, La, Rf) _
    have hQ23 : zQ n kd I L Rf gp24 I22 La T (I 124) oa := hQ23
    refine ez_istore_n (l' := [(3, .int (zon (zpie zct1 n0 n0 n0))), (0, .ref 112), (1, .int 3), (2, .int (nI n0))]) dX11_cake_126 rfl (by decide) rfl ?_
    refine ez_iload_n (i := 3) dX11_cake_127 rfl rfl ?_
    refine ez_iconst (v := (-1)) dX11_cake_128 (by decide) ?_
    refine ez_icmp_ne (tgt := 137) dX11_cake_129 (by decide) (fun c26 => ?_) (fun c26 => ?_)
    · skip
      refine ez_iload_n (i := 3) dX11_cake_137 rfl rfl ?_
      refine ez_iret dX11_cake_138 rfl rfl ?_
      rw [show s_cake T 3 (nI n0) = (zon (zpie zct1 n0 n0 n0), T) from by unfold s_cake; rw [if_pos ⟨by decide, z_n19 (N := 7) hn1 hn (by decide)⟩, nI_clamp (by omega), show (3 : Int32).toNatClampNeg = 3 from by decide]; show (zcr3 (zpie zct1 n0 n0 n0), T) = _; cases e : (zpie zct1 n0 n0 n0) with | none => exact absurd ((zon_no (fun t ht => zpie_lt ht (by omega))).mpr e) c26 | some q => rfl]
      exact hQ23.end
    · skip
      refine ez_bipush (v := (-2)) dX11_cake_132 (by decide) ?_
      refine ez_goto (tgt := 138) dX11_cake_134 (by decide) ?_
      refine ez_iret dX11_cake_138 rfl rfl ?_
      rw [show s_cake T 3 (nI n0) = ((-2), T) from by unfold s_cake; rw [if_pos ⟨by decide, z_n19 (N := 7) hn1 hn (by decide)⟩, nI_clamp (by omega), show (3 : Int32).toNatClampNeg = 3 from by decide]; show (zcr3 (zpie zct1 n0 n0 n0), T) = _; rw [(zon_no (fun t ht => zpie_lt ht (by omega))).mp (Classical.not_not.mp c26)]; rfl]
      exact hQ23.end
theorem y_X11_cake_no {n : Nat} {sl : Nat × Nat} {kd : Nat → Nat × Nat} {I : Nat → Nat → Int32} {L : Nat → Nat → Int64} {Rf : Nat → Nat → Option Nat} (d : Nat) {T : zT} {H : Nat} (hM : zM n kd I L Rf T) (hO : zOk H T) (hH : H ≤ 1000000000) {a b : Int32} (ha : ¬ (1 ≤ a ∧ a ≤ 3))  : zq mX11_cake (d + 400) [.ref 112, .int a, .int b] (n, sl, kd, I, L, Rf) (zpM n sl kd I L Rf (some (.int (s_cake T a b).1)) (s_cake T a b).2) := by
  have hF := hM.F; have hc7 := hO.c
  have hsp : s_cake T a b = ((-1), T) := (by unfold s_cake; rw [if_neg (fun g => ha g.1)])
  rw [hsp]
  intro f B
  refine ez_meth pn_X.2.2.2.2.2.2.2.2.2.2.2 (Nat.le_of_ble_eq_true rfl) ?_
  show ez_P _ _ _ _ _ _ 0 [(0, .ref 112), (1, .int a), (2, .int b)] [] (n, sl, kd, I, L, Rf) _
  refine ez_aload_n (i := 0) dX11_cake_0 rfl rfl ?_
  refine ez_iconst (v := 0) dX11_cake_1 (by decide) ?_
  refine ez_pI dX11_cake_2 plX11_89 (hF.lt (by decide)) (hF.lx (by decide)) (hF.kc (by decide) rfl) rfl rfl ?_
  refine ez_nmI (fun I1 hI1 => ?_)
  have hQ2 : zQ n kd I L Rf I I1 L T (I 124) (I 112 25) := by rw [hI1]; exact zQ.start hM
  refine ez_iload_n (i := 1) dX11_cake_5 rfl rfl ?_
  refine ez_iconst (v := 1) dX11_cake_6 (by decide) ?_
  refine ez_iconst (v := 3) dX11_cake_7 (by decide) ?_
  refine ez_callS (M1 := mX11_in) (rest := []) dX11_cake_8 mlX11_98 msX11_in rfl (Nat.le_of_ble_eq_true rfl) rfl (zq_b0 ha (zq_b (q_X11_in (d + 399) a 1 3) (n, sl, kd, I1, L, Rf))) eb_rok ?_
  rintro _ _ ⟨rfl, rfl⟩
  show ez_P _ _ _ _ _ _ 11 [(0, .ref 112), (1, .int a), (2, .int b)] (.int 0 :: []) _ _
  refine ez_if_eq (tgt := 24) dX11_cake_11 (by decide) (fun c3 => ?_) (fun c3 => absurd (by decide) c3)
  refine ez_iconst (v := (-1)) dX11_cake_24 (by decide) ?_
  refine ez_iret dX11_cake_25 rfl rfl ?_
  exact hQ2.end
theorem y_X11_cake_nx {n : Nat} {sl : Nat × Nat} {kd : Nat → Nat × Nat} {I : Nat → Nat → Int32} {L : Nat → Nat → Int64} {Rf : Nat → Nat → Option Nat} (d : Nat) {T : zT} {H : Nat} (hM : zM n kd I L Rf T) (hO : zOk H T) (hH : H ≤ 1000000000) {a b : Int32} (ha : 1 ≤ a ∧ a ≤ 3) (hb : ¬ (1 ≤ b ∧ b ≤ 7))  : zq mX11_cake (d + 400) [.ref 112, .int a, .int b] (n, sl, kd, I, L, Rf) (zpM n sl kd I L Rf (some (.int (s_cake T a b).1)) (s_cake T a b).2) := by
  have hF := hM.F; have hc7 := hO.c
  have hsp : s_cake T a b = ((-1), T) := (by unfold s_cake; rw [if_neg (fun g => hb g.2)])
  rw [hsp]
  intro f B
  refine ez_meth pn_X.2.2.2.2.2.2.2.2.2.2.2 (Nat.le_of_ble_eq_true rfl) ?_
  show ez_P _ _ _ _ _ _ 0 [(0, .ref 112), (1, .int a), (2, .int b)] [] (n, sl, kd, I, L, Rf) _
  refine ez_aload_n (i := 0) dX11_cake_0 rfl rfl ?_
  refine ez_iconst (v := 0) dX11_cake_1 (by decide) ?_
  refine ez_pI dX11_cake_2 plX11_89 (hF.lt (by decide)) (hF.lx (by decide)) (hF.kc (by decide) rfl) rfl rfl ?_
  refine ez_nmI (fun I1 hI1 => ?_)
  have hQ2 : zQ n kd I L Rf I I1 L T (I 124) (I 112 25) := by rw [hI1]; exact zQ.start hM
  refine ez_iload_n (i := 1) dX11_cake_5 rfl rfl ?_
  refine ez_iconst (v := 1) dX11_cake_6 (by decide) ?_
  refine ez_iconst (v := 3) dX11_cake_7 (by decide) ?_
  refine ez_callS (M1 := mX11_in) (rest := []) dX11_cake_8 mlX11_98 msX11_in rfl (Nat.le_of_ble_eq_true rfl) rfl (zq_b1 ha (zq_b (q_X11_in (d + 399) a 1 3) (n, sl, kd, I1, L, Rf))) eb_rok ?_
  rintro _ _ ⟨rfl, rfl⟩
  show ez_P _ _ _ _ _ _ 11 [(0, .ref 112), (1, .int a), (2, .int b)] (.int 1 :: []) _ _
  refine ez_if_eq (tgt := 24) dX11_cake_11 (by decide) (fun c3 => absurd c3 (by decide)) (fun c3 => ?_)
  refine ez_iload_n (i := 2) dX11_cake_14 rfl rfl ?_
  refine ez_iconst (v := 1) dX11_cake_15 (by decide) ?_
  refine ez_bipush (v := 7) dX11_cake_16 (by decide) ?_
  refine ez_callS (M1 := mX11_in) (rest := []) dX11_cake_18 mlX11_98 msX11_in rfl (Nat.le_of_ble_eq_true rfl) rfl (zq_b0 hb (zq_b (q_X11_in (d + 399) b 1 7) (n, sl, kd, I1, L, Rf))) eb_rok ?_
  rintro _ _ ⟨rfl, rfl⟩
  show ez_P _ _ _ _ _ _ 21 [(0, .ref 112), (1, .int a), (2, .int b)] (.int 0 :: []) _ _
  refine ez_if_ne (tgt := 26) dX11_cake_21 (by decide) (fun c4 => absurd c4 (by decide)) (fun c4 => ?_)
  refine ez_iconst (v := (-1)) dX11_cake_24 (by decide) ?_
  refine ez_iret dX11_cake_25 rfl rfl ?_
  exact hQ2.end
theorem y_X11_cake {n : Nat} {sl : Nat × Nat} {kd : Nat → Nat × Nat} {I : Nat → Nat → Int32} {L : Nat → Nat → Int64} {Rf : Nat → Nat → Option Nat} (d : Nat) {T : zT} {H : Nat} (hM : zM n kd I L Rf T) (hO : zOk H T) (hH : H ≤ 1000000000) (a b : Int32) : zq mX11_cake (d + 400) [.ref 112, .int a, .int b] (n, sl, kd, I, L, Rf) (zpM n sl kd I L Rf (some (.int (s_cake T a b).1)) (s_cake T a b).2) := by
  by_cases ha : 1 ≤ a ∧ a ≤ 3
  · by_cases hb : 1 ≤ b ∧ b ≤ 7
    · obtain ⟨p, h1, h2, rfl⟩ := z_pk1 (lo := 1) (N := 3) ha (by decide) (by decide)
      obtain ⟨q, h3, h4, rfl⟩ := z_pk1 (lo := 1) (N := 7) hb (by decide) (by decide)
      rcases (show p = 1 ∨ p = 2 ∨ p = 3 by omega) with rfl | rfl | rfl
      · exact y_X11_cake_1 d hM hO hH h3 h4
      · exact y_X11_cake_2 d hM hO hH h3 h4
      · exact y_X11_cake_3 d hM hO hH h3 h4
    · exact y_X11_cake_nx d hM hO hH ha hb
  · exact y_X11_cake_no d hM hO hH ha
