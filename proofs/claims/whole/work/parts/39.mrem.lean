/-! the reference: remember, and what can be undone -/
def zpush (un : List (Nat → Int32)) (y : Nat → Int32) : List (Nat → Int32) := if un.length < 12 then un ++ [y] else un.tail ++ [y]
def zup (x : Nat → Int32) (k : Nat) (v : Int32) : Nat → Int32 := fun q => if q = k then v else x q
def zdo (T : zT) (x : Nat → Int32) : zT := ((T.w_x (x)).w_un (zpush T.un T.x))
/-- the first k places of the undo rows moved down -/
def z_sh (I : Nat → Nat → Int32) (k : Nat) : Nat → Nat → Int32 := fun a i => if a = 122 ∧ i < k then I 122 (i + 26) else I a i
theorem z_sh0 (I : Nat → Nat → Int32) : z_sh I 0 = I := by funext a i; unfold z_sh; rw [if_neg (by omega)]
theorem z_shs (I : Nat → Nat → Int32) (k : Nat) : z_set (z_sh I k) 122 k (z_sh I k 122 (k + 26)) = z_sh I (k + 1) := by
  funext a i
  simp only [z_set, z_sh]
  rw [if_neg (show ¬ (True ∧ k + 26 < k) from fun e => absurd e.2 (by omega))]
  by_cases ha : a = 122
  · by_cases hi : i = k
    · rw [if_pos ⟨ha, hi⟩, if_pos ⟨ha, by omega⟩, hi]
    · rw [if_neg (fun e => hi e.2)]
      by_cases h2 : i < k
      · rw [if_pos ⟨ha, h2⟩, if_pos ⟨ha, by omega⟩]
      · rw [if_neg (fun e => h2 e.2), if_neg (fun e => h2 (by omega))]
  · rw [if_neg (fun e => ha e.1), if_neg (fun e => ha e.1), if_neg (fun e => ha e.1)]
theorem z_sh_ne {I : Nat → Nat → Int32} {k a : Nat} (h : a ≠ 122) : z_sh I k a = I a := by funext i; unfold z_sh; rw [if_neg (fun e => h e.1)]
def z_rem (I : Nat → Nat → Int32) (p u : Nat) : Nat → Nat → Int32 := if u < 12 then z_set (z_l26 I p 122 (26 * u) 26) 112 22 (nI (u + 1)) else z_set (z_l26 (z_set (z_sh I 286) 112 22 (nI 11)) p 122 (26 * 11) 26) 112 22 (nI (11 + 1))
theorem z_rem_ne {I : Nat → Nat → Int32} {p u a : Nat} (h1 : a ≠ 112) (h2 : a ≠ 122) : z_rem I p u a = I a := by
  unfold z_rem; split
  · rw [z_set_ne h1, z_l26_ne h2]
  · rw [z_set_ne h1, z_l26_ne h2, z_set_ne h1, z_sh_ne h2]
theorem z_rem_f {I : Nat → Nat → Int32} {p u k : Nat} (h : k ≠ 22) : z_rem I p u 112 k = I 112 k := by
  unfold z_rem; split
  · rw [z_set_nk h, z_l26_ne (by decide)]
  · rw [z_set_nk h, z_l26_ne (by decide), z_set_nk h, z_sh_ne (by decide)]
theorem z_rem_un {I : Nat → Nat → Int32} {p : Nat} {un : List (Nat → Int32)} {y : Nat → Int32} (hp : p ≠ 122) (hp2 : p ≠ 112) (hl : un.length ≤ 12) (h : I 112 22 = nI un.length ∧ ∀ j z, un[j]? = some z → ∀ k, k < 26 → I 122 (26 * j + k) = z k) (hy : ∀ k, k < 26 → I p k = y k) :
    z_rem I p un.length 112 22 = nI (zpush un y).length ∧ ∀ j z, (zpush un y)[j]? = some z → ∀ k, k < 26 → z_rem I p un.length 122 (26 * j + k) = z k := by
  unfold z_rem zpush
  by_cases hu : un.length < 12
  · rw [if_pos hu, if_pos hu]
    refine ⟨by rw [z_set_at]; simp, fun j z hz k hk => ?_⟩
    rw [z_set_ne (by decide)]
    unfold z_l26
    by_cases hj : j < un.length
    · rw [List.getElem?_append_left hj] at hz
      rw [if_neg (by omega)]
      exact h.2 j z hz k hk
    · rw [List.getElem?_append_right (by omega)] at hz
      have hj2 : j = un.length := by
        by_cases e : j - un.length = 0
        · omega
        · rw [List.getElem?_eq_none (by simp; omega)] at hz; cases hz
      subst hj2
      simp at hz; subst hz
      rw [if_pos ⟨rfl, by omega, by omega⟩, show 26 * un.length + k - 26 * un.length = k from by omega]
      exact hy k hk
  · have hu2 : un.length = 12 := by omega
    rw [if_neg hu, if_neg hu]
    refine ⟨by rw [z_set_at]; simp [hu2], fun j z hz k hk => ?_⟩
    rw [z_set_ne (by decide)]
    unfold z_l26
    by_cases hj : j < 11
    · rw [List.getElem?_append_left (by simp [hu2]; omega), List.getElem?_tail] at hz
      rw [if_neg (by omega), z_set_ne (by decide)]
      unfold z_sh
      rw [if_pos ⟨rfl, by omega⟩, show 26 * j + k + 26 = 26 * (j + 1) + k from by omega]
      exact h.2 (j + 1) z hz k hk
    · rw [List.getElem?_append_right (by simp [hu2]; omega)] at hz
      have hj2 : j = 11 := by
        by_cases e : j - 11 = 0
        · omega
        · rw [List.getElem?_eq_none (by simp [hu2]; omega)] at hz; cases hz
      subst hj2
      simp [hu2] at hz; subst hz
      rw [if_pos ⟨rfl, by omega, by omega⟩, show 26 * 11 + k - 26 * 11 = k from by omega, z_set_ne hp2, z_sh_ne hp]
      exact hy k hk
theorem z_upx {I : Nat → Nat → Int32} {x : Nat → Int32} {q : Nat} {v : Int32} (h : ∀ k, k < 26 → I 113 k = x k) : ∀ k, k < 26 → z_set I 113 q v 113 k = zup x q v k := fun k hk => by
  unfold zup
  by_cases e : k = q
  · rw [if_pos e, e, z_set_at]
  · rw [if_neg e, z_set_nk e]; exact h k hk
theorem y_X11_remember {n : Nat} {sl : Nat × Nat} {kd : Nat → Nat × Nat} {I : Nat → Nat → Int32} {L : Nat → Nat → Int64} {Rf : Nat → Nat → Option Nat} (d : Nat) (hF : zF n kd Rf) {p u : Nat} (hp : p = 113 ∨ p = 123) (hpk : kd p = (20, 26)) (hu : I 112 22 = nI u) (hu2 : u ≤ 12) : zq mX11_remember (d + 1) [.ref 112, .ref p] (n, sl, kd, I, L, Rf) (eb_v (n, sl, kd, z_rem I p u, L, Rf)) := by
  intro f B
  refine ez_meth pn_X.2.2.2.2.2.2.2.2.2.2.2 (Nat.le_of_ble_eq_true rfl) ?_
  show ez_P _ _ _ _ _ _ 0 [(0, .ref 112), (1, .ref p)] [] (n, sl, kd, I, L, Rf) _
  refine ez_aload_n (i := 0) dX11_remember_0 rfl rfl ?_
  refine ez_getI dX11_remember_1 flX11_154 (hF.lt (by decide)) (hF.kc (by decide) rfl) ?_
  refine ez_topE (y := nI u) hu ?_
  refine ez_bipush (v := 12) dX11_remember_4 (by decide) ?_
  refine ez_icmp_ne (tgt := 49) dX11_remember_6 (by decide) (fun c1 => ?_) (fun c1 => ?_)
  · skip
    have hu12 : u < 12 := by have : u ≠ 12 := (fun e => c1 (by rw [e]; rfl)); omega
    refine ez_aload_n (i := 1) dX11_remember_49 rfl rfl ?_
    refine ez_aload_n (i := 0) dX11_remember_50 rfl rfl ?_
    refine ez_getR dX11_remember_51 flX11_43 (hF.lt (by decide)) (hF.kc (by decide) rfl) (hF.pt 115 rfl) ?_
    refine ez_bipush (v := 26) dX11_remember_54 (by decide) ?_
    refine ez_aload_n (i := 0) dX11_remember_56 rfl rfl ?_
    refine ez_getI dX11_remember_57 flX11_154 (hF.lt (by decide)) (hF.kc (by decide) rfl) ?_
    refine ez_topE (y := nI u) hu ?_
    refine ez_imul dX11_remember_60 ?_
    refine ez_topE (y := nI (26 * u)) (nI_mul _ _) ?_
    refine ez_callS (M1 := mX11_lay) (rest := []) dX11_remember_61 mlX11_231 msX11_lay rfl (Nat.le_of_ble_eq_true rfl) rfl (y_X11_lay (I := I) (p := p) (q := 122) (u := 26 * u) (m := 312) d hF ⟨hF.lt (by omega), hpk⟩ ⟨hF.lt (by decide), hF.ka (by decide) rfl, by decide⟩ (by omega) (by omega) (by omega)) (eb_vok rfl) ?_
    rintro _ _ ⟨rfl, rfl⟩
    show ez_P _ _ _ _ _ _ 64 [(0, .ref 112), (1, .ref p)] [] (n, sl, kd, z_l26 I p 122 (26 * u) 26, L, Rf) _
    refine ez_nmI (fun I2 hI2 => ?_)
    refine ez_aload_n (i := 0) dX11_remember_64 rfl rfl ?_
    refine ez_dup dX11_remember_65 rfl ?_
    refine ez_getI dX11_remember_66 flX11_154 (hF.lt (by decide)) (hF.kc (by decide) rfl) ?_
    refine ez_topE (y := I 112 22) (by rw [hI2, z_l26_ne (by decide)]) ?_
    refine ez_topE (y := nI u) hu ?_
    refine ez_iconst (v := 1) dX11_remember_69 (by decide) ?_
    refine ez_iadd dX11_remember_70 ?_
    refine ez_topE (y := nI (u + 1)) (nI_add _ _) ?_
    refine ez_pI dX11_remember_71 plX11_154 (hF.lt (by decide)) (hF.lx (by decide)) (hF.kc (by decide) rfl) rfl rfl ?_
    refine ez_nmI (fun I3 hI3 => ?_)
    refine ez_vret dX11_remember_74 rfl ?_
    exact ⟨by subst_vars; unfold z_rem; rw [if_pos hu12], rfl⟩
  · skip
    refine ez_iconst (v := 0) dX11_remember_9 (by decide) ?_
    refine ez_istore_n (l' := [(2, .int 0), (0, .ref 112), (1, .ref p)]) dX11_remember_10 rfl (by decide) rfl ?_
    have hu12 : u = 12 := z_nIinj (b := 12) ((Classical.not_not.mp c1).trans rfl) (by omega) (by decide)
    subst hu12
    refine ez_eq (σ2 := (n, sl, kd, z_sh I 0, L, Rf)) rfl rfl rfl (by rw [z_sh0]) ?_
    refine ez_eq (l2 := [(2, .int (nI 0)), (0, .ref 112), (1, .ref p)]) (σ2 := (n, sl, kd, z_sh I 0, L, Rf)) rfl (by rw [nI_0]) rfl rfl ?_
    refine ez_for 286 (fun k (a : Unit) => ([(2, .int (nI k)), (0, .ref 112), (1, .ref p)], (n, sl, kd, z_sh I k, L, Rf))) (fun k a => True) ?_ ?_ 286 0 () (by omega) trivial
    · intro k a hk hinv ih
      show ez_P _ _ _ _ _ _ 11 [(2, .int (nI k)), (0, .ref 112), (1, .ref p)] [] (n, sl, kd, z_sh I k, L, Rf) _
      refine ez_iload_n (i := 2) dX11_remember_11 rfl rfl ?_
      refine ez_sipush (v := 286) dX11_remember_12 (by decide) ?_
      refine ez_icmp_ge (tgt := 39) dX11_remember_15 (by decide) (fun c4 => absurd c4 (by rw [show (286 : Int32) = nI 286 from rfl]; exact nI_ge hk (by decide))) (fun c4 => ?_)
      refine ez_aload_n (i := 0) dX11_remember_18 rfl rfl ?_
      refine ez_getR dX11_remember_19 flX11_43 (hF.lt (by decide)) (hF.kc (by decide) rfl) (hF.pt 115 rfl) ?_
      refine ez_iload_n (i := 2) dX11_remember_22 rfl rfl ?_
      refine ez_aload_n (i := 0) dX11_remember_23 rfl rfl ?_
      refine ez_getR dX11_remember_24 flX11_43 (hF.lt (by decide)) (hF.kc (by decide) rfl) (hF.pt 115 rfl) ?_
      refine ez_iload_n (i := 2) dX11_remember_27 rfl rfl ?_
      refine ez_bipush (v := 26) dX11_remember_28 (by decide) ?_
      refine ez_iadd dX11_remember_30 ?_
      refine ez_topE (y := nI (k + 26)) (nI_add _ _) ?_
      refine ez_iaN (k := (k + 26)) dX11_remember_31 (hF.lt (by decide)) (hF.ka (by decide) rfl) (by omega) (by decide) ?_
      refine ez_isN (k := k) dX11_remember_32 (hF.lt (by decide)) (hF.lx (by decide)) (hF.ka (by decide) rfl) (by omega) (by decide) ?_
      refine ez_nmI (fun I5 hI5 => ?_)
      refine ez_iinc (v := (nI (k + 1))) (l' := [(2, .int ((nI (k + 1)))), (0, .ref 112), (1, .ref p)]) dX11_remember_33 rfl (nI_1 _) (by decide) rfl ?_
      refine ez_goto (tgt := 11) dX11_remember_36 (by decide) ?_
      refine ez_eq (l2 := [(2, .int (nI (k + 1))), (0, .ref 112), (1, .ref p)]) (σ2 := (n, sl, kd, z_sh I (k + 1), L, Rf)) rfl rfl rfl (by subst_vars; rw [← z_shs]) (ih () trivial)
    · intro a hinv
      show ez_P _ _ _ _ _ _ 11 [(2, .int (nI 286)), (0, .ref 112), (1, .ref p)] [] (n, sl, kd, z_sh I 286, L, Rf) _
      refine ez_iload_n (i := 2) dX11_remember_11 rfl rfl ?_
      refine ez_sipush (v := 286) dX11_remember_12 (by decide) ?_
      refine ez_icmp_ge (tgt := 39) dX11_remember_15 (by decide) (fun c6 => ?_) (fun c6 => absurd (by decide) c6)
      refine ez_aload_n (i := 0) dX11_remember_39 rfl rfl ?_
      refine ez_dup dX11_remember_40 rfl ?_
      refine ez_getI dX11_remember_41 flX11_154 (hF.lt (by decide)) (hF.kc (by decide) rfl) ?_
      refine ez_topE (y := nI 12) (by rw [z_sh_ne (by decide)]; exact hu) ?_
      refine ez_iconst (v := 1) dX11_remember_44 (by decide) ?_
      refine ez_isub dX11_remember_45 ?_
      refine ez_topE (y := nI 11) (by decide) ?_
      refine ez_pI dX11_remember_46 plX11_154 (hF.lt (by decide)) (hF.lx (by decide)) (hF.kc (by decide) rfl) rfl rfl ?_
      refine ez_nmI (fun I7 hI7 => ?_)
      refine ez_aload_n (i := 1) dX11_remember_49 rfl rfl ?_
      refine ez_aload_n (i := 0) dX11_remember_50 rfl rfl ?_
      refine ez_getR dX11_remember_51 flX11_43 (hF.lt (by decide)) (hF.kc (by decide) rfl) (hF.pt 115 rfl) ?_
      refine ez_bipush (v := 26) dX11_remember_54 (by decide) ?_
      refine ez_aload_n (i := 0) dX11_remember_56 rfl rfl ?_
      refine ez_getI dX11_remember_57 flX11_154 (hF.lt (by decide)) (hF.kc (by decide) rfl) ?_
      refine ez_topE (y := nI 11) (by rw [hI7, z_set_at]) ?_
      refine ez_imul dX11_remember_60 ?_
      refine ez_topE (y := nI (26 * 11)) (nI_mul _ _) ?_
      refine ez_callS (M1 := mX11_lay) (rest := []) dX11_remember_61 mlX11_231 msX11_lay rfl (Nat.le_of_ble_eq_true rfl) rfl (y_X11_lay (I := I7) (p := p) (q := 122) (u := 26 * 11) (m := 312) d hF ⟨hF.lt (by omega), hpk⟩ ⟨hF.lt (by decide), hF.ka (by decide) rfl, by decide⟩ (by omega) (by omega) (by omega)) (eb_vok rfl) ?_
      rintro _ _ ⟨rfl, rfl⟩
      show ez_P _ _ _ _ _ _ 64 [(2, .int (nI 286)), (0, .ref 112), (1, .ref p)] [] (n, sl, kd, z_l26 I7 p 122 (26 * 11) 26, L, Rf) _
      refine ez_nmI (fun I8 hI8 => ?_)
      refine ez_aload_n (i := 0) dX11_remember_64 rfl rfl ?_
      refine ez_dup dX11_remember_65 rfl ?_
      refine ez_getI dX11_remember_66 flX11_154 (hF.lt (by decide)) (hF.kc (by decide) rfl) ?_
      refine ez_topE (y := nI 11) (by rw [hI8, z_l26_ne (by decide), hI7, z_set_at]) ?_
      refine ez_iconst (v := 1) dX11_remember_69 (by decide) ?_
      refine ez_iadd dX11_remember_70 ?_
      refine ez_topE (y := nI (11 + 1)) (nI_add _ _) ?_
      refine ez_pI dX11_remember_71 plX11_154 (hF.lt (by decide)) (hF.lx (by decide)) (hF.kc (by decide) rfl) rfl rfl ?_
      refine ez_nmI (fun I9 hI9 => ?_)
      refine ez_vret dX11_remember_74 rfl ?_
      exact ⟨by subst_vars; unfold z_rem; rw [if_neg (by decide)], rfl⟩
