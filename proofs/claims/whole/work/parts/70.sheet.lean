/-! sheet and rests, on the reference and on the class -/
theorem zQ.nset {n : Nat} {kd : Nat → Nat × Nat} {I0 g I : Nat → Nat → Int32} {L0 L : Nat → Nat → Int64} {Rf : Nat → Nat → Option Nat} {T : zT} {x : Nat → Int32} {o : Int32} {k : Nat} {v : Int32} (h : zQ n kd I0 L0 Rf g I L T x o) : zQ n kd I0 L0 Rf g (z_set I 113 k v) L (T.w_x (zup T.x k v)) x o :=
  h.hpn ⟨fun q hq => by unfold zup z_set; by_cases e : q = k; rw [if_pos ⟨rfl, e⟩, if_pos e]; rw [if_neg (fun z => e z.2), if_neg e]; exact h.M.x q hq, by rw [z_set_ne (by decide)]; exact h.o, fun c h1 _ => z_set_ne h1, fun k _ => by rw [z_set_ne (by decide)]⟩
def zcut (k v : Int32) : Int32 := if k = 0 then v.toInt8.toInt32 else if k = 1 then v.toInt16.toInt32 else v
def zsv (f st : Int32) : Nat → Int32
  | 0 => f
  | k + 1 => zsv f st k + st
def zse (kn m f st : Int32) (b : Nat) : Int32 := if kn = 3 ∨ m ≤ nI b then 0 else z_put (zcut kn (zsv f st b)) 0 9
def zsr (x : Nat → Int32) (kn m f st : Int32) : Nat → Nat → Int32
  | 0 => x
  | k + 1 => zup (zsr x kn m f st k) k (zse kn m f st k)
def s_sheet (T : zT) (kn m f st : Int32) : Int32 × zT := if (0 ≤ kn ∧ kn ≤ 3) ∧ m ≤ 7 then (if kn < 3 ∧ m < 0 then (-2, T) else (if kn = 3 then -3 else z_sum (zsr T.x kn m f st T.c) T.c, T.w_x (zsr T.x kn m f st T.c))) else (-1, T)
theorem z_put9 (e : Int32) : (if 0 < (if e < 9 then e else 9) then (if e < 9 then e else 9) else 0) = z_put e 0 9 := by
  unfold z_put
  by_cases h1 : e < 0
  · rw [if_pos h1, if_pos (Int32.lt_trans h1 (by decide)), if_neg (Int32.not_lt.mpr (Int32.le_of_lt h1))]
  · rw [if_neg h1]
    by_cases h2 : 9 < e
    · rw [if_neg (Int32.not_lt.mpr (Int32.le_of_lt h2)), if_pos h2]; decide
    · rw [if_neg h2]
      by_cases h3 : e < 9
      · rw [if_pos h3]
        by_cases h4 : 0 < e
        · rw [if_pos h4]
        · rw [if_neg h4]; exact Int32.le_antisymm (Int32.not_lt.mp h1) (Int32.not_lt.mp h4)
      · rw [if_neg h3]; exact Int32.le_antisymm (Int32.not_lt.mp h3) (Int32.not_lt.mp h2)
theorem y_X11_sheet_ok {n : Nat} {sl : Nat × Nat} {kd : Nat → Nat × Nat} {I : Nat → Nat → Int32} {L : Nat → Nat → Int64} {Rf : Nat → Nat → Option Nat} (d : Nat) {T : zT} {H : Nat} (hM : zM n kd I L Rf T) (hO : zOk H T) (hH : H ≤ 1000000000) {kn m f0 st : Int32} (hk0 : 0 ≤ kn ∧ kn ≤ 3) (hm : m ≤ 7)  : zq mX11_sheet (d + 400) [.ref 112, .int kn, .int m, .int f0, .int st] (n, sl, kd, I, L, Rf) (zpM n sl kd I L Rf (some (.int (s_sheet T kn m f0 st).1)) (s_sheet T kn m f0 st).2) := by
  have hF := hM.F; have hc7 := hO.c
  intro f B
  refine ez_meth pn_X.2.2.2.2.2.2.2.2.2.2.2 (Nat.le_of_ble_eq_true rfl) ?_
  show ez_P _ _ _ _ _ _ 0 [(0, .ref 112), (1, .int kn), (2, .int m), (3, .int f0), (4, .int st)] [] (n, sl, kd, I, L, Rf) _
  refine ez_aload_n (i := 0) dX11_sheet_0 rfl rfl ?_
  refine ez_iconst (v := 0) dX11_sheet_1 (by decide) ?_
  refine ez_pI dX11_sheet_2 plX11_89 (hF.lt (by decide)) (hF.lx (by decide)) (hF.kc (by decide) rfl) rfl rfl ?_
  refine ez_nmI (fun I1 hI1 => ?_)
  have hQ2 : zQ n kd I L Rf I I1 L T (I 124) (I 112 25) := by rw [hI1]; exact zQ.start hM
  refine ez_iload_n (i := 1) dX11_sheet_5 rfl rfl ?_
  refine ez_iconst (v := 0) dX11_sheet_6 (by decide) ?_
  refine ez_iconst (v := 3) dX11_sheet_7 (by decide) ?_
  refine ez_callS (M1 := mX11_in) (rest := []) dX11_sheet_8 mlX11_98 msX11_in rfl (Nat.le_of_ble_eq_true rfl) rfl (zq_b1 hk0 (zq_b (q_X11_in (d + 399) kn 0 3) (n, sl, kd, I1, L, Rf))) eb_rok ?_
  rintro _ _ ⟨rfl, rfl⟩
  show ez_P _ _ _ _ _ _ 11 [(0, .ref 112), (1, .int kn), (2, .int m), (3, .int f0), (4, .int st)] (.int 1 :: []) _ _
  refine ez_if_eq (tgt := 20) dX11_sheet_11 (by decide) (fun c3 => absurd c3 (by decide)) (fun c3 => ?_)
  refine ez_iload_n (i := 2) dX11_sheet_14 rfl rfl ?_
  refine ez_bipush (v := 7) dX11_sheet_15 (by decide) ?_
  refine ez_icmp_le (tgt := 22) dX11_sheet_17 (by decide) (fun c4 => ?_) (fun c4 => absurd hm c4)
  refine ez_iload_n (i := 1) dX11_sheet_22 rfl rfl ?_
  refine ez_iconst (v := 3) dX11_sheet_23 (by decide) ?_
  refine ez_icmp_ge (tgt := 34) dX11_sheet_24 (by decide) (fun c5 => ?_) (fun c5 => ?_)
  · skip
    have hno : ¬ (kn < 3 ∧ m < 0) := fun g => absurd g.1 (Int32.not_lt.mpr c5)
    refine ez_iload_n (i := 3) dX11_sheet_34 rfl rfl ?_
    refine ez_istore (l' := [(5, .int f0), (0, .ref 112), (1, .int kn), (2, .int m), (3, .int f0), (4, .int st)]) dX11_sheet_35 (by decide) rfl ?_
    refine ez_iconst (v := 0) dX11_sheet_37 (by decide) ?_
    refine ez_istore (l' := [(6, .int 0), (5, .int f0), (0, .ref 112), (1, .int kn), (2, .int m), (3, .int f0), (4, .int st)]) dX11_sheet_38 (by decide) rfl ?_
    refine ez_eq (l2 := [(6, .int (nI 0)), (5, .int (zsv f0 st 0)), (0, .ref 112), (1, .int kn), (2, .int m), (3, .int f0), (4, .int st)]) (σ2 := (n, sl, kd, I1, L, Rf)) rfl rfl rfl rfl ?_
    refine ez_for T.c (fun k (a : (Nat → Nat → Int32) × (Nat → Nat → Int64) × Int32) => ([(6, .int (nI k)), (5, .int (zsv f0 st k)), (0, .ref 112), (1, .int kn), (2, .int m), (3, .int f0), (4, .int st)], (n, sl, kd, a.1, a.2.1, Rf))) (fun k a => zQ n kd I L Rf I a.1 a.2.1 (T.w_x (zsr T.x kn m f0 st k)) (I 124) a.2.2) ?_ ?_ T.c 0 (I1, L, I 112 25) (by omega) hQ2
    · rintro k ⟨Ia, La, oa⟩ hk hQ0 ih
      have hQ0 : zQ n kd I L Rf I Ia La (T.w_x (zsr T.x kn m f0 st k)) (I 124) oa := hQ0
      show ez_P _ _ _ _ _ _ 40 [(6, .int (nI k)), (5, .int (zsv f0 st k)), (0, .ref 112), (1, .int kn), (2, .int m), (3, .int f0), (4, .int st)] [] (n, sl, kd, Ia, La, Rf) _
      refine ez_iload (i := 6) dX11_sheet_40 rfl ?_
      refine ez_aload_n (i := 0) dX11_sheet_42 rfl rfl ?_
      refine ez_getI dX11_sheet_43 flX11_95 (hF.lt (by decide)) (hF.kc (by decide) rfl) ?_
      refine ez_topE (y := nI T.c) hQ0.M.c ?_
      refine ez_icmp_ge (tgt := 120) dX11_sheet_46 (by decide) (fun c6 => absurd c6 (nI_ge hk (by omega))) (fun c6 => ?_)
      refine ez_iload_n (i := 1) dX11_sheet_49 rfl rfl ?_
      refine ez_if_ne (tgt := 59) dX11_sheet_50 (by decide) (fun c7 => ?_) (fun c7 => ?_)
      · skip
        refine ez_iload_n (i := 1) dX11_sheet_59 rfl rfl ?_
        refine ez_iconst (v := 1) dX11_sheet_60 (by decide) ?_
        refine ez_icmp_ne (tgt := 70) dX11_sheet_61 (by decide) (fun c8 => ?_) (fun c8 => ?_)
        · skip
          refine ez_iload (i := 5) dX11_sheet_70 rfl ?_
          refine ez_istore (l' := [(7, .int (zsv f0 st k)), (6, .int (nI k)), (5, .int (zsv f0 st k)), (0, .ref 112), (1, .int kn), (2, .int m), (3, .int f0), (4, .int st)]) dX11_sheet_72 (by decide) rfl ?_
          refine ez_aload_n (i := 0) dX11_sheet_74 rfl rfl ?_
          refine ez_getR dX11_sheet_75 flX11_9 (hF.lt (by decide)) (hF.kc (by decide) rfl) (hF.pt 107 rfl) ?_
          refine ez_iload (i := 6) dX11_sheet_78 rfl ?_
          refine ez_iload_n (i := 1) dX11_sheet_80 rfl rfl ?_
          refine ez_iconst (v := 3) dX11_sheet_81 (by decide) ?_
          refine ez_icmp_eq (tgt := 91) dX11_sheet_82 (by decide) (fun c9 => ?_) (fun c9 => ?_)
          · skip
            refine ez_iconst (v := 0) dX11_sheet_91 (by decide) ?_
            refine ez_goto (tgt := 106) dX11_sheet_92 (by decide) ?_
            refine ez_topE (y := zse kn m f0 st k) (by unfold zse; rw [if_pos (Or.inl c9)]) ?_
            refine ez_isN (k := k) dX11_sheet_106 (hF.lt (by decide)) (hF.lx (by decide)) (hF.ka (by decide) rfl) (by omega) (by decide) ?_
            refine ez_nmI (fun I10 hI10 => ?_)
            have hQ11 : zQ n kd I L Rf I I10 La (T.w_x (zup (zsr T.x kn m f0 st k) k (zse kn m f0 st k))) (I 124) oa := by rw [hI10]; exact hQ0.nset
            refine ez_iload (i := 5) dX11_sheet_107 rfl ?_
            refine ez_iload (i := 4) dX11_sheet_109 rfl ?_
            refine ez_iadd dX11_sheet_111 ?_
            refine ez_istore (l' := [(5, .int ((zsv f0 st k) + st)), (7, .int (zsv f0 st k)), (6, .int (nI k)), (0, .ref 112), (1, .int kn), (2, .int m), (3, .int f0), (4, .int st)]) dX11_sheet_112 (by decide) rfl ?_
            refine ez_iinc (v := (nI (k + 1))) (l' := [(6, .int ((nI (k + 1)))), (5, .int ((zsv f0 st k) + st)), (7, .int (zsv f0 st k)), (0, .ref 112), (1, .int kn), (2, .int m), (3, .int f0), (4, .int st)]) dX11_sheet_114 rfl (nI_1 _) (by decide) rfl ?_
            refine ez_goto (tgt := 40) dX11_sheet_117 (by decide) ?_
            refine ez_sub (l' := [(6, .int ((nI (k + 1)))), (5, .int ((zsv f0 st k) + st)), (0, .ref 112), (1, .int kn), (2, .int m), (3, .int f0), (4, .int st)]) [0, 1, 3, 4, 5, 6, 7] rfl ?_
            exact ez_eq (l2 := [(6, .int (nI (k + 1))), (5, .int (zsv f0 st (k + 1))), (0, .ref 112), (1, .int kn), (2, .int m), (3, .int f0), (4, .int st)]) rfl rfl rfl rfl (ih (I10, La, oa) hQ11)
          · skip
            refine ez_iload (i := 6) dX11_sheet_85 rfl ?_
            refine ez_iload_n (i := 2) dX11_sheet_87 rfl rfl ?_
            refine ez_icmp_lt (tgt := 95) dX11_sheet_88 (by decide) (fun c12 => ?_) (fun c12 => ?_)
            · skip
              refine ez_iconst (v := 0) dX11_sheet_95 (by decide) ?_
              refine ez_bipush (v := 9) dX11_sheet_96 (by decide) ?_
              refine ez_iload (i := 7) dX11_sheet_98 rfl ?_
              refine ez_min dX11_sheet_100 xmX11_197 (Nat.le_of_ble_eq_true rfl) ?_
              refine ez_max dX11_sheet_103 xmX11_201 (Nat.le_of_ble_eq_true rfl) ?_
              refine ez_topE (y := zse kn m f0 st k) (by unfold zse; rw [z_put9, if_neg (show ¬ (kn = 3 ∨ m ≤ nI k) from fun g => g.elim c9 (fun g => absurd c12 (Int32.not_lt.mpr g))), zcut, if_neg c7, if_neg c8]) ?_
              refine ez_isN (k := k) dX11_sheet_106 (hF.lt (by decide)) (hF.lx (by decide)) (hF.ka (by decide) rfl) (by omega) (by decide) ?_
              refine ez_nmI (fun I13 hI13 => ?_)
              have hQ14 : zQ n kd I L Rf I I13 La (T.w_x (zup (zsr T.x kn m f0 st k) k (zse kn m f0 st k))) (I 124) oa := by rw [hI13]; exact hQ0.nset
              refine ez_iload (i := 5) dX11_sheet_107 rfl ?_
              refine ez_iload (i := 4) dX11_sheet_109 rfl ?_
              refine ez_iadd dX11_sheet_111 ?_
              refine ez_istore (l' := [(5, .int ((zsv f0 st k) + st)), (7, .int (zsv f0 st k)), (6, .int (nI k)), (0, .ref 112), (1, .int kn), (2, .int m), (3, .int f0), (4, .int st)]) dX11_sheet_112 (by decide) rfl ?_
              refine ez_iinc (v := (nI (k + 1))) (l' := [(6, .int ((nI (k + 1)))), (5, .int ((zsv f0 st k) + st)), (7, .int (zsv f0 st k)), (0, .ref 112), (1, .int kn), (2, .int m), (3, .int f0), (4, .int st)]) dX11_sheet_114 rfl (nI_1 _) (by decide) rfl ?_
              refine ez_goto (tgt := 40) dX11_sheet_117 (by decide) ?_
              refine ez_sub (l' := [(6, .int ((nI (k + 1)))), (5, .int ((zsv f0 st k) + st)), (0, .ref 112), (1, .int kn), (2, .int m), (3, .int f0), (4, .int st)]) [0, 1, 3, 4, 5, 6, 7] rfl ?_
              exact ez_eq (l2 := [(6, .int (nI (k + 1))), (5, .int (zsv f0 st (k + 1))), (0, .ref 112), (1, .int kn), (2, .int m), (3, .int f0), (4, .int st)]) rfl rfl rfl rfl (ih (I13, La, oa) hQ14)
            · skip
              refine ez_iconst (v := 0) dX11_sheet_91 (by decide) ?_
              refine ez_goto (tgt := 106) dX11_sheet_92 (by decide) ?_
              refine ez_topE (y := zse kn m f0 st k) (by unfold zse; rw [if_pos (Or.inr (Int32.not_lt.mp c12))]) ?_
              refine ez_isN (k := k) dX11_sheet_106 (hF.lt (by decide)) (hF.lx (by decide)) (hF.ka (by decide) rfl) (by omega) (by decide) ?_
              refine ez_nmI (fun I15 hI15 => ?_)
              have hQ16 : zQ n kd I L Rf I I15 La (T.w_x (zup (zsr T.x kn m f0 st k) k (zse kn m f0 st k))) (I 124) oa := by rw [hI15]; exact hQ0.nset
              refine ez_iload (i := 5) dX11_sheet_107 rfl ?_
              refine ez_iload (i := 4) dX11_sheet_109 rfl ?_
              refine ez_iadd dX11_sheet_111 ?_
              refine ez_istore (l' := [(5, .int ((zsv f0 st k) + st)), (7, .int (zsv f0 st k)), (6, .int (nI k)), (0, .ref 112), (1, .int kn), (2, .int m), (3, .int f0), (4, .int st)]) dX11_sheet_112 (by decide) rfl ?_
              refine ez_iinc (v := (nI (k + 1))) (l' := [(6, .int ((nI (k + 1)))), (5, .int ((zsv f0 st k) + st)), (7, .int (zsv f0 st k)), (0, .ref 112), (1, .int kn), (2, .int m), (3, .int f0), (4, .int st)]) dX11_sheet_114 rfl (nI_1 _) (by decide) rfl ?_
              refine ez_goto (tgt := 40) dX11_sheet_117 (by decide) ?_
              refine ez_sub (l' := [(6, .int ((nI (k + 1)))), (5, .int ((zsv f0 st k) + st)), (0, .ref 112), (1, .int kn), (2, .int m), (3, .int f0), (4, .int st)]) [0, 1, 3, 4, 5, 6, 7] rfl ?_
              exact ez_eq (l2 := [(6, .int (nI (k + 1))), (5, .int (zsv f0 st (k + 1))), (0, .ref 112), (1, .int kn), (2, .int m), (3, .int f0), (4, .int st)]) rfl rfl rfl rfl (ih (I15, La, oa) hQ16)
        · skip
          refine ez_iload (i := 5) dX11_sheet_64 rfl ?_
          refine ez_i2s dX11_sheet_66 rfl ?_
          refine ez_goto (tgt := 72) dX11_sheet_67 (by decide) ?_
          refine ez_istore (l' := [(7, .int ((zsv f0 st k).toInt16.toInt32)), (6, .int (nI k)), (5, .int (zsv f0 st k)), (0, .ref 112), (1, .int kn), (2, .int m), (3, .int f0), (4, .int st)]) dX11_sheet_72 (by decide) rfl ?_
          refine ez_aload_n (i := 0) dX11_sheet_74 rfl rfl ?_
          refine ez_getR dX11_sheet_75 flX11_9 (hF.lt (by decide)) (hF.kc (by decide) rfl) (hF.pt 107 rfl) ?_
          refine ez_iload (i := 6) dX11_sheet_78 rfl ?_
          refine ez_iload_n (i := 1) dX11_sheet_80 rfl rfl ?_
          refine ez_iconst (v := 3) dX11_sheet_81 (by decide) ?_
          refine ez_icmp_eq (tgt := 91) dX11_sheet_82 (by decide) (fun c17 => ?_) (fun c17 => ?_)
          · skip
            refine ez_iconst (v := 0) dX11_sheet_91 (by decide) ?_
            refine ez_goto (tgt := 106) dX11_sheet_92 (by decide) ?_
            refine ez_topE (y := zse kn m f0 st k) (by unfold zse; rw [if_pos (Or.inl c17)]) ?_
            refine ez_isN (k := k) dX11_sheet_106 (hF.lt (by decide)) (hF.lx (by decide)) (hF.ka (by decide) rfl) (by omega) (by decide) ?_
            refine ez_nmI (fun I18 hI18 => ?_)
            have hQ19 : zQ n kd I L Rf I I18 La (T.w_x (zup (zsr T.x kn m f0 st k) k (zse kn m f0 st k))) (I 124) oa := by rw [hI18]; exact hQ0.nset
            refine ez_iload (i := 5) dX11_sheet_107 rfl ?_
            refine ez_iload (i := 4) dX11_sheet_109 rfl ?_
            refine ez_iadd dX11_sheet_111 ?_
            refine ez_istore (l' := [(5, .int ((zsv f0 st k) + st)), (7, .int ((zsv f0 st k).toInt16.toInt32)), (6, .int (nI k)), (0, .ref 112), (1, .int kn), (2, .int m), (3, .int f0), (4, .int st)]) dX11_sheet_112 (by decide) rfl ?_
            refine ez_iinc (v := (nI (k + 1))) (l' := [(6, .int ((nI (k + 1)))), (5, .int ((zsv f0 st k) + st)), (7, .int ((zsv f0 st k).toInt16.toInt32)), (0, .ref 112), (1, .int kn), (2, .int m), (3, .int f0), (4, .int st)]) dX11_sheet_114 rfl (nI_1 _) (by decide) rfl ?_
            refine ez_goto (tgt := 40) dX11_sheet_117 (by decide) ?_
            refine ez_sub (l' := [(6, .int ((nI (k + 1)))), (5, .int ((zsv f0 st k) + st)), (0, .ref 112), (1, .int kn), (2, .int m), (3, .int f0), (4, .int st)]) [0, 1, 3, 4, 5, 6, 7] rfl ?_
            exact ez_eq (l2 := [(6, .int (nI (k + 1))), (5, .int (zsv f0 st (k + 1))), (0, .ref 112), (1, .int kn), (2, .int m), (3, .int f0), (4, .int st)]) rfl rfl rfl rfl (ih (I18, La, oa) hQ19)
          · skip
            refine ez_iload (i := 6) dX11_sheet_85 rfl ?_
            refine ez_iload_n (i := 2) dX11_sheet_87 rfl rfl ?_
            refine ez_icmp_lt (tgt := 95) dX11_sheet_88 (by decide) (fun c20 => ?_) (fun c20 => ?_)
            · skip
              refine ez_iconst (v := 0) dX11_sheet_95 (by decide) ?_
              refine ez_bipush (v := 9) dX11_sheet_96 (by decide) ?_
              refine ez_iload (i := 7) dX11_sheet_98 rfl ?_
              refine ez_min dX11_sheet_100 xmX11_197 (Nat.le_of_ble_eq_true rfl) ?_
              refine ez_max dX11_sheet_103 xmX11_201 (Nat.le_of_ble_eq_true rfl) ?_
              refine ez_topE (y := zse kn m f0 st k) (by unfold zse; rw [z_put9, if_neg (show ¬ (kn = 3 ∨ m ≤ nI k) from fun g => g.elim c17 (fun g => absurd c20 (Int32.not_lt.mpr g))), zcut, if_neg c7, if_pos (Classical.not_not.mp c8)]) ?_
              refine ez_isN (k := k) dX11_sheet_106 (hF.lt (by decide)) (hF.lx (by decide)) (hF.ka (by decide) rfl) (by omega) (by decide) ?_
              refine ez_nmI (fun I21 hI21 => ?_)
              have hQ22 : zQ n kd I L Rf I I21 La (T.w_x (zup (zsr T.x kn m f0 st k) k (zse kn m f0 st k))) (I 124) oa := by rw [hI21]; exact hQ0.nset
              refine ez_iload (i := 5) dX11_sheet_107 rfl ?_
              refine ez_iload (i := 4) dX11_sheet_109 rfl ?_
              refine ez_iadd dX11_sheet_111 ?_
              refine ez_istore (l' := [(5, .int ((zsv f0 st k) + st)), (7, .int ((zsv f0 st k).toInt16.toInt32)), (6, .int (nI k)), (0, .ref 112), (1, .int kn), (2, .int m), (3, .int f0), (4, .int st)]) dX11_sheet_112 (by decide) rfl ?_
              refine ez_iinc (v := (nI (k + 1))) (l' := [(6, .int ((nI (k + 1)))), (5, .int ((zsv f0 st k) + st)), (7, .int ((zsv f0 st k).toInt16.toInt32)), (0, .ref 112), (1, .int kn), (2, .int m), (3, .int f0), (4, .int st)]) dX11_sheet_114 rfl (nI_1 _) (by decide) rfl ?_
              refine ez_goto (tgt := 40) dX11_sheet_117 (by decide) ?_
              refine ez_sub (l' := [(6, .int ((nI (k + 1)))), (5, .int ((zsv f0 st k) + st)), (0, .ref 112), (1, .int kn), (2, .int m), (3, .int f0), (4, .int st)]) [0, 1, 3, 4, 5, 6, 7] rfl ?_
              exact ez_eq (l2 := [(6, .int (nI (k + 1))), (5, .int (zsv f0 st (k + 1))), (0, .ref 112), (1, .int kn), (2, .int m), (3, .int f0), (4, .int st)]) rfl rfl rfl rfl (ih (I21, La, oa) hQ22)
            · skip
              refine ez_iconst (v := 0) dX11_sheet_91 (by decide) ?_
              refine ez_goto (tgt := 106) dX11_sheet_92 (by decide) ?_
              refine ez_topE (y := zse kn m f0 st k) (by unfold zse; rw [if_pos (Or.inr (Int32.not_lt.mp c20))]) ?_
              refine ez_isN (k := k) dX11_sheet_106 (hF.lt (by decide)) (hF.lx (by decide)) (hF.ka (by decide) rfl) (by omega) (by decide) ?_
              refine ez_nmI (fun I23 hI23 => ?_)
              have hQ24 : zQ n kd I L Rf I I23 La (T.w_x (zup (zsr T.x kn m f0 st k) k (zse kn m f0 st k))) (I 124) oa := by rw [hI23]; exact hQ0.nset
              refine ez_iload (i := 5) dX11_sheet_107 rfl ?_
              refine ez_iload (i := 4) dX11_sheet_109 rfl ?_
              refine ez_iadd dX11_sheet_111 ?_
              refine ez_istore (l' := [(5, .int ((zsv f0 st k) + st)), (7, .int ((zsv f0 st k).toInt16.toInt32)), (6, .int (nI k)), (0, .ref 112), (1, .int kn), (2, .int m), (3, .int f0), (4, .int st)]) dX11_sheet_112 (by decide) rfl ?_
              refine ez_iinc (v := (nI (k + 1))) (l' := [(6, .int ((nI (k + 1)))), (5, .int ((zsv f0 st k) + st)), (7, .int ((zsv f0 st k).toInt16.toInt32)), (0, .ref 112), (1, .int kn), (2, .int m), (3, .int f0), (4, .int st)]) dX11_sheet_114 rfl (nI_1 _) (by decide) rfl ?_
              refine ez_goto (tgt := 40) dX11_sheet_117 (by decide) ?_
              refine ez_sub (l' := [(6, .int ((nI (k + 1)))), (5, .int ((zsv f0 st k) + st)), (0, .ref 112), (1, .int kn), (2, .int m), (3, .int f0), (4, .int st)]) [0, 1, 3, 4, 5, 6, 7] rfl ?_
              exact ez_eq (l2 := [(6, .int (nI (k + 1))), (5, .int (zsv f0 st (k + 1))), (0, .ref 112), (1, .int kn), (2, .int m), (3, .int f0), (4, .int st)]) rfl rfl rfl rfl (ih (I23, La, oa) hQ24)
      · skip
        refine ez_iload (i := 5) dX11_sheet_53 rfl ?_
        refine ez_i2b dX11_sheet_55 rfl ?_
        refine ez_goto (tgt := 72) dX11_sheet_56 (by decide) ?_
        refine ez_istore (l' := [(7, .int ((zsv f0 st k).toInt8.toInt32)), (6, .int (nI k)), (5, .int (zsv f0 st k)), (0, .ref 112), (1, .int kn), (2, .int m), (3, .int f0), (4, .int st)]) dX11_sheet_72 (by decide) rfl ?_
        refine ez_aload_n (i := 0) dX11_sheet_74 rfl rfl ?_
        refine ez_getR dX11_sheet_75 flX11_9 (hF.lt (by decide)) (hF.kc (by decide) rfl) (hF.pt 107 rfl) ?_
        refine ez_iload (i := 6) dX11_sheet_78 rfl ?_
        refine ez_iload_n (i := 1) dX11_sheet_80 rfl rfl ?_
        refine ez_iconst (v := 3) dX11_sheet_81 (by decide) ?_
        refine ez_icmp_eq (tgt := 91) dX11_sheet_82 (by decide) (fun c25 => ?_) (fun c25 => ?_)
        · skip
          refine ez_iconst (v := 0) dX11_sheet_91 (by decide) ?_
          refine ez_goto (tgt := 106) dX11_sheet_92 (by decide) ?_
          refine ez_topE (y := zse kn m f0 st k) (by unfold zse; rw [if_pos (Or.inl c25)]) ?_
          refine ez_isN (k := k) dX11_sheet_106 (hF.lt (by decide)) (hF.lx (by decide)) (hF.ka (by decide) rfl) (by omega) (by decide) ?_
          refine ez_nmI (fun I26 hI26 => ?_)
          have hQ27 : zQ n kd I L Rf I I26 La (T.w_x (zup (zsr T.x kn m f0 st k) k (zse kn m f0 st k))) (I 124) oa := by rw [hI26]; exact hQ0.nset
          refine ez_iload (i := 5) dX11_sheet_107 rfl ?_
          refine ez_iload (i := 4) dX11_sheet_109 rfl ?_
          refine ez_iadd dX11_sheet_111 ?_
          refine ez_istore (l' := [(5, .int ((zsv f0 st k) + st)), (7, .int ((zsv f0 st k).toInt8.toInt32)), (6, .int (nI k)), (0, .ref 112), (1, .int kn), (2, .int m), (3, .int f0), (4, .int st)]) dX11_sheet_112 (by decide) rfl ?_
          refine ez_iinc (v := (nI (k + 1))) (l' := [(6, .int ((nI (k + 1)))), (5, .int ((zsv f0 st k) + st)), (7, .int ((zsv f0 st k).toInt8.toInt32)), (0, .ref 112), (1, .int kn), (2, .int m), (3, .int f0), (4, .int st)]) dX11_sheet_114 rfl (nI_1 _) (by decide) rfl ?_
          refine ez_goto (tgt := 40) dX11_sheet_117 (by decide) ?_
          refine ez_sub (l' := [(6, .int ((nI (k + 1)))), (5, .int ((zsv f0 st k) + st)), (0, .ref 112), (1, .int kn), (2, .int m), (3, .int f0), (4, .int st)]) [0, 1, 3, 4, 5, 6, 7] rfl ?_
          exact ez_eq (l2 := [(6, .int (nI (k + 1))), (5, .int (zsv f0 st (k + 1))), (0, .ref 112), (1, .int kn), (2, .int m), (3, .int f0), (4, .int st)]) rfl rfl rfl rfl (ih (I26, La, oa) hQ27)
        · skip
          refine ez_iload (i := 6) dX11_sheet_85 rfl ?_
          refine ez_iload_n (i := 2) dX11_sheet_87 rfl rfl ?_
          refine ez_icmp_lt (tgt := 95) dX11_sheet_88 (by decide) (fun c28 => ?_) (fun c28 => ?_)
          · skip
            refine ez_iconst (v := 0) dX11_sheet_95 (by decide) ?_
            refine ez_bipush (v := 9) dX11_sheet_96 (by decide) ?_
            refine ez_iload (i := 7) dX11_sheet_98 rfl ?_
            refine ez_min dX11_sheet_100 xmX11_197 (Nat.le_of_ble_eq_true rfl) ?_
            refine ez_max dX11_sheet_103 xmX11_201 (Nat.le_of_ble_eq_true rfl) ?_
            refine ez_topE (y := zse kn m f0 st k) (by unfold zse; rw [z_put9, if_neg (show ¬ (kn = 3 ∨ m ≤ nI k) from fun g => g.elim c25 (fun g => absurd c28 (Int32.not_lt.mpr g))), zcut, if_pos (Classical.not_not.mp c7)]) ?_
            refine ez_isN (k := k) dX11_sheet_106 (hF.lt (by decide)) (hF.lx (by decide)) (hF.ka (by decide) rfl) (by omega) (by decide) ?_
            refine ez_nmI (fun I29 hI29 => ?_)
            have hQ30 : zQ n kd I L Rf I I29 La (T.w_x (zup (zsr T.x kn m f0 st k) k (zse kn m f0 st k))) (I 124) oa := by rw [hI29]; exact hQ0.nset
            refine ez_iload (i := 5) dX11_sheet_107 rfl ?_
            refine ez_iload (i := 4) dX11_sheet_109 rfl ?_
            refine ez_iadd dX11_sheet_111 ?_
            refine ez_istore (l' := [(5, .int ((zsv f0 st k) + st)), (7, .int ((zsv f0 st k).toInt8.toInt32)), (6, .int (nI k)), (0, .ref 112), (1, .int kn), (2, .int m), (3, .int f0), (4, .int st)]) dX11_sheet_112 (by decide) rfl ?_
            refine ez_iinc (v := (nI (k + 1))) (l' := [(6, .int ((nI (k + 1)))), (5, .int ((zsv f0 st k) + st)), (7, .int ((zsv f0 st k).toInt8.toInt32)), (0, .ref 112), (1, .int kn), (2, .int m), (3, .int f0), (4, .int st)]) dX11_sheet_114 rfl (nI_1 _) (by decide) rfl ?_
            refine ez_goto (tgt := 40) dX11_sheet_117 (by decide) ?_
            refine ez_sub (l' := [(6, .int ((nI (k + 1)))), (5, .int ((zsv f0 st k) + st)), (0, .ref 112), (1, .int kn), (2, .int m), (3, .int f0), (4, .int st)]) [0, 1, 3, 4, 5, 6, 7] rfl ?_
            exact ez_eq (l2 := [(6, .int (nI (k + 1))), (5, .int (zsv f0 st (k + 1))), (0, .ref 112), (1, .int kn), (2, .int m), (3, .int f0), (4, .int st)]) rfl rfl rfl rfl (ih (I29, La, oa) hQ30)
          · skip
            refine ez_iconst (v := 0) dX11_sheet_91 (by decide) ?_
            refine ez_goto (tgt := 106) dX11_sheet_92 (by decide) ?_
            refine ez_topE (y := zse kn m f0 st k) (by unfold zse; rw [if_pos (Or.inr (Int32.not_lt.mp c28))]) ?_
            refine ez_isN (k := k) dX11_sheet_106 (hF.lt (by decide)) (hF.lx (by decide)) (hF.ka (by decide) rfl) (by omega) (by decide) ?_
            refine ez_nmI (fun I31 hI31 => ?_)
            have hQ32 : zQ n kd I L Rf I I31 La (T.w_x (zup (zsr T.x kn m f0 st k) k (zse kn m f0 st k))) (I 124) oa := by rw [hI31]; exact hQ0.nset
            refine ez_iload (i := 5) dX11_sheet_107 rfl ?_
            refine ez_iload (i := 4) dX11_sheet_109 rfl ?_
            refine ez_iadd dX11_sheet_111 ?_
            refine ez_istore (l' := [(5, .int ((zsv f0 st k) + st)), (7, .int ((zsv f0 st k).toInt8.toInt32)), (6, .int (nI k)), (0, .ref 112), (1, .int kn), (2, .int m), (3, .int f0), (4, .int st)]) dX11_sheet_112 (by decide) rfl ?_
            refine ez_iinc (v := (nI (k + 1))) (l' := [(6, .int ((nI (k + 1)))), (5, .int ((zsv f0 st k) + st)), (7, .int ((zsv f0 st k).toInt8.toInt32)), (0, .ref 112), (1, .int kn), (2, .int m), (3, .int f0), (4, .int st)]) dX11_sheet_114 rfl (nI_1 _) (by decide) rfl ?_
            refine ez_goto (tgt := 40) dX11_sheet_117 (by decide) ?_
            refine ez_sub (l' := [(6, .int ((nI (k + 1)))), (5, .int ((zsv f0 st k) + st)), (0, .ref 112), (1, .int kn), (2, .int m), (3, .int f0), (4, .int st)]) [0, 1, 3, 4, 5, 6, 7] rfl ?_
            exact ez_eq (l2 := [(6, .int (nI (k + 1))), (5, .int (zsv f0 st (k + 1))), (0, .ref 112), (1, .int kn), (2, .int m), (3, .int f0), (4, .int st)]) rfl rfl rfl rfl (ih (I31, La, oa) hQ32)
    · rintro ⟨Ia, La, oa⟩ hQ0
      have hQ0 : zQ n kd I L Rf I Ia La (T.w_x (zsr T.x kn m f0 st T.c)) (I 124) oa := hQ0
      show ez_P _ _ _ _ _ _ 40 [(6, .int (nI T.c)), (5, .int (zsv f0 st T.c)), (0, .ref 112), (1, .int kn), (2, .int m), (3, .int f0), (4, .int st)] [] (n, sl, kd, Ia, La, Rf) _
      refine ez_iload (i := 6) dX11_sheet_40 rfl ?_
      refine ez_aload_n (i := 0) dX11_sheet_42 rfl rfl ?_
      refine ez_getI dX11_sheet_43 flX11_95 (hF.lt (by decide)) (hF.kc (by decide) rfl) ?_
      refine ez_topE (y := nI T.c) hQ0.M.c ?_
      refine ez_icmp_ge (tgt := 120) dX11_sheet_46 (by decide) (fun c33 => ?_) (fun c33 => absurd (nI_le (Nat.le_refl _) (by omega)) c33)
      refine ez_iload_n (i := 1) dX11_sheet_120 rfl rfl ?_
      refine ez_iconst (v := 3) dX11_sheet_121 (by decide) ?_
      refine ez_icmp_ne (tgt := 130) dX11_sheet_122 (by decide) (fun c34 => ?_) (fun c34 => ?_)
      · skip
        refine ez_aload_n (i := 0) dX11_sheet_130 rfl rfl ?_
        refine ez_callV (M1 := mX11_gravity) (rest := []) dX11_sheet_131 mlX11_228 mvX11_gravity rfl (hF.lt (by decide)) (hF.kc (by decide) rfl) (Nat.le_of_ble_eq_true rfl) rfl (y_gvT (I := Ia) (L := La) (d + 399) hQ0.M hO.c) eb_rok ?_
        rintro _ _ ⟨rfl, rfl⟩
        show ez_P _ _ _ _ _ _ 134 [(6, .int (nI T.c)), (5, .int (zsv f0 st T.c)), (0, .ref 112), (1, .int kn), (2, .int m), (3, .int f0), (4, .int st)] (.int (z_sum (zsr T.x kn m f0 st T.c) T.c) :: []) _ _
        refine ez_iret dX11_sheet_134 rfl rfl ?_
        rw [show s_sheet T kn m f0 st = (z_sum (zsr T.x kn m f0 st T.c) T.c, T.w_x (zsr T.x kn m f0 st T.c)) from by unfold s_sheet; rw [if_pos ⟨hk0, hm⟩, if_neg hno, if_neg c34]]
        exact hQ0.end
      · skip
        refine ez_bipush (v := (-3)) dX11_sheet_125 (by decide) ?_
        refine ez_goto (tgt := 134) dX11_sheet_127 (by decide) ?_
        refine ez_iret dX11_sheet_134 rfl rfl ?_
        rw [show s_sheet T kn m f0 st = ((-3), T.w_x (zsr T.x kn m f0 st T.c)) from by unfold s_sheet; rw [if_pos ⟨hk0, hm⟩, if_neg hno, if_pos (Classical.not_not.mp c34)]]
        exact hQ0.end
  · skip
    refine ez_iload_n (i := 2) dX11_sheet_27 rfl rfl ?_
    refine ez_if_ge (tgt := 34) dX11_sheet_28 (by decide) (fun c35 => ?_) (fun c35 => ?_)
    · skip
      have hno : ¬ (kn < 3 ∧ m < 0) := fun g => absurd g.2 (Int32.not_lt.mpr c35)
      refine ez_iload_n (i := 3) dX11_sheet_34 rfl rfl ?_
      refine ez_istore (l' := [(5, .int f0), (0, .ref 112), (1, .int kn), (2, .int m), (3, .int f0), (4, .int st)]) dX11_sheet_35 (by decide) rfl ?_
      refine ez_iconst (v := 0) dX11_sheet_37 (by decide) ?_
      refine ez_istore (l' := [(6, .int 0), (5, .int f0), (0, .ref 112), (1, .int kn), (2, .int m), (3, .int f0), (4, .int st)]) dX11_sheet_38 (by decide) rfl ?_
      refine ez_eq (l2 := [(6, .int (nI 0)), (5, .int (zsv f0 st 0)), (0, .ref 112), (1, .int kn), (2, .int m), (3, .int f0), (4, .int st)]) (σ2 := (n, sl, kd, I1, L, Rf)) rfl rfl rfl rfl ?_
      refine ez_for T.c (fun k (a : (Nat → Nat → Int32) × (Nat → Nat → Int64) × Int32) => ([(6, .int (nI k)), (5, .int (zsv f0 st k)), (0, .ref 112), (1, .int kn), (2, .int m), (3, .int f0), (4, .int st)], (n, sl, kd, a.1, a.2.1, Rf))) (fun k a => zQ n kd I L Rf I a.1 a.2.1 (T.w_x (zsr T.x kn m f0 st k)) (I 124) a.2.2) ?_ ?_ T.c 0 (I1, L, I 112 25) (by omega) hQ2
      · rintro k ⟨Ia, La, oa⟩ hk hQ0 ih
        have hQ0 : zQ n kd I L Rf I Ia La (T.w_x (zsr T.x kn m f0 st k)) (I 124) oa := hQ0
        show ez_P _ _ _ _ _ _ 40 [(6, .int (nI k)), (5, .int (zsv f0 st k)), (0, .ref 112), (1, .int kn), (2, .int m), (3, .int f0), (4, .int st)] [] (n, sl, kd, Ia, La, Rf) _
        refine ez_iload (i := 6) dX11_sheet_40 rfl ?_
        refine ez_aload_n (i := 0) dX11_sheet_42 rfl rfl ?_
        refine ez_getI dX11_sheet_43 flX11_95 (hF.lt (by decide)) (hF.kc (by decide) rfl) ?_
        refine ez_topE (y := nI T.c) hQ0.M.c ?_
        refine ez_icmp_ge (tgt := 120) dX11_sheet_46 (by decide) (fun c36 => absurd c36 (nI_ge hk (by omega))) (fun c36 => ?_)
        refine ez_iload_n (i := 1) dX11_sheet_49 rfl rfl ?_
        refine ez_if_ne (tgt := 59) dX11_sheet_50 (by decide) (fun c37 => ?_) (fun c37 => ?_)
        · skip
          refine ez_iload_n (i := 1) dX11_sheet_59 rfl rfl ?_
          refine ez_iconst (v := 1) dX11_sheet_60 (by decide) ?_
          refine ez_icmp_ne (tgt := 70) dX11_sheet_61 (by decide) (fun c38 => ?_) (fun c38 => ?_)
          · skip
            refine ez_iload (i := 5) dX11_sheet_70 rfl ?_
            refine ez_istore (l' := [(7, .int (zsv f0 st k)), (6, .int (nI k)), (5, .int (zsv f0 st k)), (0, .ref 112), (1, .int kn), (2, .int m), (3, .int f0), (4, .int st)]) dX11_sheet_72 (by decide) rfl ?_
            refine ez_aload_n (i := 0) dX11_sheet_74 rfl rfl ?_
            refine ez_getR dX11_sheet_75 flX11_9 (hF.lt (by decide)) (hF.kc (by decide) rfl) (hF.pt 107 rfl) ?_
            refine ez_iload (i := 6) dX11_sheet_78 rfl ?_
            refine ez_iload_n (i := 1) dX11_sheet_80 rfl rfl ?_
            refine ez_iconst (v := 3) dX11_sheet_81 (by decide) ?_
            refine ez_icmp_eq (tgt := 91) dX11_sheet_82 (by decide) (fun c39 => ?_) (fun c39 => ?_)
            · skip
              refine ez_iconst (v := 0) dX11_sheet_91 (by decide) ?_
              refine ez_goto (tgt := 106) dX11_sheet_92 (by decide) ?_
              refine ez_topE (y := zse kn m f0 st k) (by unfold zse; rw [if_pos (Or.inl c39)]) ?_
              refine ez_isN (k := k) dX11_sheet_106 (hF.lt (by decide)) (hF.lx (by decide)) (hF.ka (by decide) rfl) (by omega) (by decide) ?_
              refine ez_nmI (fun I40 hI40 => ?_)
              have hQ41 : zQ n kd I L Rf I I40 La (T.w_x (zup (zsr T.x kn m f0 st k) k (zse kn m f0 st k))) (I 124) oa := by rw [hI40]; exact hQ0.nset
              refine ez_iload (i := 5) dX11_sheet_107 rfl ?_
              refine ez_iload (i := 4) dX11_sheet_109 rfl ?_
              refine ez_iadd dX11_sheet_111 ?_
              refine ez_istore (l' := [(5, .int ((zsv f0 st k) + st)), (7, .int (zsv f0 st k)), (6, .int (nI k)), (0, .ref 112), (1, .int kn), (2, .int m), (3, .int f0), (4, .int st)]) dX11_sheet_112 (by decide) rfl ?_
              refine ez_iinc (v := (nI (k + 1))) (l' := [(6, .int ((nI (k + 1)))), (5, .int ((zsv f0 st k) + st)), (7, .int (zsv f0 st k)), (0, .ref 112), (1, .int kn), (2, .int m), (3, .int f0), (4, .int st)]) dX11_sheet_114 rfl (nI_1 _) (by decide) rfl ?_
              refine ez_goto (tgt := 40) dX11_sheet_117 (by decide) ?_
              refine ez_sub (l' := [(6, .int ((nI (k + 1)))), (5, .int ((zsv f0 st k) + st)), (0, .ref 112), (1, .int kn), (2, .int m), (3, .int f0), (4, .int st)]) [0, 1, 3, 4, 5, 6, 7] rfl ?_
              exact ez_eq (l2 := [(6, .int (nI (k + 1))), (5, .int (zsv f0 st (k + 1))), (0, .ref 112), (1, .int kn), (2, .int m), (3, .int f0), (4, .int st)]) rfl rfl rfl rfl (ih (I40, La, oa) hQ41)
            · skip
              refine ez_iload (i := 6) dX11_sheet_85 rfl ?_
              refine ez_iload_n (i := 2) dX11_sheet_87 rfl rfl ?_
              refine ez_icmp_lt (tgt := 95) dX11_sheet_88 (by decide) (fun c42 => ?_) (fun c42 => ?_)
              · skip
                refine ez_iconst (v := 0) dX11_sheet_95 (by decide) ?_
                refine ez_bipush (v := 9) dX11_sheet_96 (by decide) ?_
                refine ez_iload (i := 7) dX11_sheet_98 rfl ?_
                refine ez_min dX11_sheet_100 xmX11_197 (Nat.le_of_ble_eq_true rfl) ?_
                refine ez_max dX11_sheet_103 xmX11_201 (Nat.le_of_ble_eq_true rfl) ?_
                refine ez_topE (y := zse kn m f0 st k) (by unfold zse; rw [z_put9, if_neg (show ¬ (kn = 3 ∨ m ≤ nI k) from fun g => g.elim c39 (fun g => absurd c42 (Int32.not_lt.mpr g))), zcut, if_neg c37, if_neg c38]) ?_
                refine ez_isN (k := k) dX11_sheet_106 (hF.lt (by decide)) (hF.lx (by decide)) (hF.ka (by decide) rfl) (by omega) (by decide) ?_
                refine ez_nmI (fun I43 hI43 => ?_)
                have hQ44 : zQ n kd I L Rf I I43 La (T.w_x (zup (zsr T.x kn m f0 st k) k (zse kn m f0 st k))) (I 124) oa := by rw [hI43]; exact hQ0.nset
                refine ez_iload (i := 5) dX11_sheet_107 rfl ?_
                refine ez_iload (i := 4) dX11_sheet_109 rfl ?_
                refine ez_iadd dX11_sheet_111 ?_
                refine ez_istore (l' := [(5, .int ((zsv f0 st k) + st)), (7, .int (zsv f0 st k)), (6, .int (nI k)), (0, .ref 112), (1, .int kn), (2, .int m), (3, .int f0), (4, .int st)]) dX11_sheet_112 (by decide) rfl ?_
                refine ez_iinc (v := (nI (k + 1))) (l' := [(6, .int ((nI (k + 1)))), (5, .int ((zsv f0 st k) + st)), (7, .int (zsv f0 st k)), (0, .ref 112), (1, .int kn), (2, .int m), (3, .int f0), (4, .int st)]) dX11_sheet_114 rfl (nI_1 _) (by decide) rfl ?_
                refine ez_goto (tgt := 40) dX11_sheet_117 (by decide) ?_
                refine ez_sub (l' := [(6, .int ((nI (k + 1)))), (5, .int ((zsv f0 st k) + st)), (0, .ref 112), (1, .int kn), (2, .int m), (3, .int f0), (4, .int st)]) [0, 1, 3, 4, 5, 6, 7] rfl ?_
                exact ez_eq (l2 := [(6, .int (nI (k + 1))), (5, .int (zsv f0 st (k + 1))), (0, .ref 112), (1, .int kn), (2, .int m), (3, .int f0), (4, .int st)]) rfl rfl rfl rfl (ih (I43, La, oa) hQ44)
              · skip
                refine ez_iconst (v := 0) dX11_sheet_91 (by decide) ?_
                refine ez_goto (tgt := 106) dX11_sheet_92 (by decide) ?_
                refine ez_topE (y := zse kn m f0 st k) (by unfold zse; rw [if_pos (Or.inr (Int32.not_lt.mp c42))]) ?_
                refine ez_isN (k := k) dX11_sheet_106 (hF.lt (by decide)) (hF.lx (by decide)) (hF.ka (by decide) rfl) (by omega) (by decide) ?_
                refine ez_nmI (fun I45 hI45 => ?_)
                have hQ46 : zQ n kd I L Rf I I45 La (T.w_x (zup (zsr T.x kn m f0 st k) k (zse kn m f0 st k))) (I 124) oa := by rw [hI45]; exact hQ0.nset
                refine ez_iload (i := 5) dX11_sheet_107 rfl ?_
                refine ez_iload (i := 4) dX11_sheet_109 rfl ?_
                refine ez_iadd dX11_sheet_111 ?_
                refine ez_istore (l' := [(5, .int ((zsv f0 st k) + st)), (7, .int (zsv f0 st k)), (6, .int (nI k)), (0, .ref 112), (1, .int kn), (2, .int m), (3, .int f0), (4, .int st)]) dX11_sheet_112 (by decide) rfl ?_
                refine ez_iinc (v := (nI (k + 1))) (l' := [(6, .int ((nI (k + 1)))), (5, .int ((zsv f0 st k) + st)), (7, .int (zsv f0 st k)), (0, .ref 112), (1, .int kn), (2, .int m), (3, .int f0), (4, .int st)]) dX11_sheet_114 rfl (nI_1 _) (by decide) rfl ?_
                refine ez_goto (tgt := 40) dX11_sheet_117 (by decide) ?_
                refine ez_sub (l' := [(6, .int ((nI (k + 1)))), (5, .int ((zsv f0 st k) + st)), (0, .ref 112), (1, .int kn), (2, .int m), (3, .int f0), (4, .int st)]) [0, 1, 3, 4, 5, 6, 7] rfl ?_
                exact ez_eq (l2 := [(6, .int (nI (k + 1))), (5, .int (zsv f0 st (k + 1))), (0, .ref 112), (1, .int kn), (2, .int m), (3, .int f0), (4, .int st)]) rfl rfl rfl rfl (ih (I45, La, oa) hQ46)
          · skip
            refine ez_iload (i := 5) dX11_sheet_64 rfl ?_
            refine ez_i2s dX11_sheet_66 rfl ?_
            refine ez_goto (tgt := 72) dX11_sheet_67 (by decide) ?_
            refine ez_istore (l' := [(7, .int ((zsv f0 st k).toInt16.toInt32)), (6, .int (nI k)), (5, .int (zsv f0 st k)), (0, .ref 112), (1, .int kn), (2, .int m), (3, .int f0), (4, .int st)]) dX11_sheet_72 (by decide) rfl ?_
            refine ez_aload_n (i := 0) dX11_sheet_74 rfl rfl ?_
            refine ez_getR dX11_sheet_75 flX11_9 (hF.lt (by decide)) (hF.kc (by decide) rfl) (hF.pt 107 rfl) ?_
            refine ez_iload (i := 6) dX11_sheet_78 rfl ?_
            refine ez_iload_n (i := 1) dX11_sheet_80 rfl rfl ?_
            refine ez_iconst (v := 3) dX11_sheet_81 (by decide) ?_
            refine ez_icmp_eq (tgt := 91) dX11_sheet_82 (by decide) (fun c47 => ?_) (fun c47 => ?_)
            · skip
              refine ez_iconst (v := 0) dX11_sheet_91 (by decide) ?_
              refine ez_goto (tgt := 106) dX11_sheet_92 (by decide) ?_
              refine ez_topE (y := zse kn m f0 st k) (by unfold zse; rw [if_pos (Or.inl c47)]) ?_
              refine ez_isN (k := k) dX11_sheet_106 (hF.lt (by decide)) (hF.lx (by decide)) (hF.ka (by decide) rfl) (by omega) (by decide) ?_
              refine ez_nmI (fun I48 hI48 => ?_)
              have hQ49 : zQ n kd I L Rf I I48 La (T.w_x (zup (zsr T.x kn m f0 st k) k (zse kn m f0 st k))) (I 124) oa := by rw [hI48]; exact hQ0.nset
              refine ez_iload (i := 5) dX11_sheet_107 rfl ?_
              refine ez_iload (i := 4) dX11_sheet_109 rfl ?_
              refine ez_iadd dX11_sheet_111 ?_
              refine ez_istore (l' := [(5, .int ((zsv f0 st k) + st)), (7, .int ((zsv f0 st k).toInt16.toInt32)), (6, .int (nI k)), (0, .ref 112), (1, .int kn), (2, .int m), (3, .int f0), (4, .int st)]) dX11_sheet_112 (by decide) rfl ?_
              refine ez_iinc (v := (nI (k + 1))) (l' := [(6, .int ((nI (k + 1)))), (5, .int ((zsv f0 st k) + st)), (7, .int ((zsv f0 st k).toInt16.toInt32)), (0, .ref 112), (1, .int kn), (2, .int m), (3, .int f0), (4, .int st)]) dX11_sheet_114 rfl (nI_1 _) (by decide) rfl ?_
              refine ez_goto (tgt := 40) dX11_sheet_117 (by decide) ?_
              refine ez_sub (l' := [(6, .int ((nI (k + 1)))), (5, .int ((zsv f0 st k) + st)), (0, .ref 112), (1, .int kn), (2, .int m), (3, .int f0), (4, .int st)]) [0, 1, 3, 4, 5, 6, 7] rfl ?_
              exact ez_eq (l2 := [(6, .int (nI (k + 1))), (5, .int (zsv f0 st (k + 1))), (0, .ref 112), (1, .int kn), (2, .int m), (3, .int f0), (4, .int st)]) rfl rfl rfl rfl (ih (I48, La, oa) hQ49)
            · skip
              refine ez_iload (i := 6) dX11_sheet_85 rfl ?_
              refine ez_iload_n (i := 2) dX11_sheet_87 rfl rfl ?_
              refine ez_icmp_lt (tgt := 95) dX11_sheet_88 (by decide) (fun c50 => ?_) (fun c50 => ?_)
              · skip
                refine ez_iconst (v := 0) dX11_sheet_95 (by decide) ?_
                refine ez_bipush (v := 9) dX11_sheet_96 (by decide) ?_
                refine ez_iload (i := 7) dX11_sheet_98 rfl ?_
                refine ez_min dX11_sheet_100 xmX11_197 (Nat.le_of_ble_eq_true rfl) ?_
                refine ez_max dX11_sheet_103 xmX11_201 (Nat.le_of_ble_eq_true rfl) ?_
                refine ez_topE (y := zse kn m f0 st k) (by unfold zse; rw [z_put9, if_neg (show ¬ (kn = 3 ∨ m ≤ nI k) from fun g => g.elim c47 (fun g => absurd c50 (Int32.not_lt.mpr g))), zcut, if_neg c37, if_pos (Classical.not_not.mp c38)]) ?_
                refine ez_isN (k := k) dX11_sheet_106 (hF.lt (by decide)) (hF.lx (by decide)) (hF.ka (by decide) rfl) (by omega) (by decide) ?_
                refine ez_nmI (fun I51 hI51 => ?_)
                have hQ52 : zQ n kd I L Rf I I51 La (T.w_x (zup (zsr T.x kn m f0 st k) k (zse kn m f0 st k))) (I 124) oa := by rw [hI51]; exact hQ0.nset
                refine ez_iload (i := 5) dX11_sheet_107 rfl ?_
                refine ez_iload (i := 4) dX11_sheet_109 rfl ?_
                refine ez_iadd dX11_sheet_111 ?_
                refine ez_istore (l' := [(5, .int ((zsv f0 st k) + st)), (7, .int ((zsv f0 st k).toInt16.toInt32)), (6, .int (nI k)), (0, .ref 112), (1, .int kn), (2, .int m), (3, .int f0), (4, .int st)]) dX11_sheet_112 (by decide) rfl ?_
                refine ez_iinc (v := (nI (k + 1))) (l' := [(6, .int ((nI (k + 1)))), (5, .int ((zsv f0 st k) + st)), (7, .int ((zsv f0 st k).toInt16.toInt32)), (0, .ref 112), (1, .int kn), (2, .int m), (3, .int f0), (4, .int st)]) dX11_sheet_114 rfl (nI_1 _) (by decide) rfl ?_
                refine ez_goto (tgt := 40) dX11_sheet_117 (by decide) ?_
                refine ez_sub (l' := [(6, .int ((nI (k + 1)))), (5, .int ((zsv f0 st k) + st)), (0, .ref 112), (1, .int kn), (2, .int m), (3, .int f0), (4, .int st)]) [0, 1, 3, 4, 5, 6, 7] rfl ?_
                exact ez_eq (l2 := [(6, .int (nI (k + 1))), (5, .int (zsv f0 st (k + 1))), (0, .ref 112), (1, .int kn), (2, .int m), (3, .int f0), (4, .int st)]) rfl rfl rfl rfl (ih (I51, La, oa) hQ52)
              · skip
                refine ez_iconst (v := 0) dX11_sheet_91 (by decide) ?_
                refine ez_goto (tgt := 106) dX11_sheet_92 (by decide) ?_
                refine ez_topE (y := zse kn m f0 st k) (by unfold zse; rw [if_pos (Or.inr (Int32.not_lt.mp c50))]) ?_
                refine ez_isN (k := k) dX11_sheet_106 (hF.lt (by decide)) (hF.lx (by decide)) (hF.ka (by decide) rfl) (by omega) (by decide) ?_
                refine ez_nmI (fun I53 hI53 => ?_)
                have hQ54 : zQ n kd I L Rf I I53 La (T.w_x (zup (zsr T.x kn m f0 st k) k (zse kn m f0 st k))) (I 124) oa := by rw [hI53]; exact hQ0.nset
                refine ez_iload (i := 5) dX11_sheet_107 rfl ?_
                refine ez_iload (i := 4) dX11_sheet_109 rfl ?_
                refine ez_iadd dX11_sheet_111 ?_
                refine ez_istore (l' := [(5, .int ((zsv f0 st k) + st)), (7, .int ((zsv f0 st k).toInt16.toInt32)), (6, .int (nI k)), (0, .ref 112), (1, .int kn), (2, .int m), (3, .int f0), (4, .int st)]) dX11_sheet_112 (by decide) rfl ?_
                refine ez_iinc (v := (nI (k + 1))) (l' := [(6, .int ((nI (k + 1)))), (5, .int ((zsv f0 st k) + st)), (7, .int ((zsv f0 st k).toInt16.toInt32)), (0, .ref 112), (1, .int kn), (2, .int m), (3, .int f0), (4, .int st)]) dX11_sheet_114 rfl (nI_1 _) (by decide) rfl ?_
                refine ez_goto (tgt := 40) dX11_sheet_117 (by decide) ?_
                refine ez_sub (l' := [(6, .int ((nI (k + 1)))), (5, .int ((zsv f0 st k) + st)), (0, .ref 112), (1, .int kn), (2, .int m), (3, .int f0), (4, .int st)]) [0, 1, 3, 4, 5, 6, 7] rfl ?_
                exact ez_eq (l2 := [(6, .int (nI (k + 1))), (5, .int (zsv f0 st (k + 1))), (0, .ref 112), (1, .int kn), (2, .int m), (3, .int f0), (4, .int st)]) rfl rfl rfl rfl (ih (I53, La, oa) hQ54)
        · skip
          refine ez_iload (i := 5) dX11_sheet_53 rfl ?_
          refine ez_i2b dX11_sheet_55 rfl ?_
          refine ez_goto (tgt := 72) dX11_sheet_56 (by decide) ?_
          refine ez_istore (l' := [(7, .int ((zsv f0 st k).toInt8.toInt32)), (6, .int (nI k)), (5, .int (zsv f0 st k)), (0, .ref 112), (1, .int kn), (2, .int m), (3, .int f0), (4, .int st)]) dX11_sheet_72 (by decide) rfl ?_
          refine ez_aload_n (i := 0) dX11_sheet_74 rfl rfl ?_
          refine ez_getR dX11_sheet_75 flX11_9 (hF.lt (by decide)) (hF.kc (by decide) rfl) (hF.pt 107 rfl) ?_
          refine ez_iload (i := 6) dX11_sheet_78 rfl ?_
          refine ez_iload_n (i := 1) dX11_sheet_80 rfl rfl ?_
          refine ez_iconst (v := 3) dX11_sheet_81 (by decide) ?_
          refine ez_icmp_eq (tgt := 91) dX11_sheet_82 (by decide) (fun c55 => ?_) (fun c55 => ?_)
          · skip
            refine ez_iconst (v := 0) dX11_sheet_91 (by decide) ?_
            refine ez_goto (tgt := 106) dX11_sheet_92 (by decide) ?_
            refine ez_topE (y := zse kn m f0 st k) (by unfold zse; rw [if_pos (Or.inl c55)]) ?_
            refine ez_isN (k := k) dX11_sheet_106 (hF.lt (by decide)) (hF.lx (by decide)) (hF.ka (by decide) rfl) (by omega) (by decide) ?_
            refine ez_nmI (fun I56 hI56 => ?_)
            have hQ57 : zQ n kd I L Rf I I56 La (T.w_x (zup (zsr T.x kn m f0 st k) k (zse kn m f0 st k))) (I 124) oa := by rw [hI56]; exact hQ0.nset
            refine ez_iload (i := 5) dX11_sheet_107 rfl ?_
            refine ez_iload (i := 4) dX11_sheet_109 rfl ?_
            refine ez_iadd dX11_sheet_111 ?_
            refine ez_istore (l' := [(5, .int ((zsv f0 st k) + st)), (7, .int ((zsv f0 st k).toInt8.toInt32)), (6, .int (nI k)), (0, .ref 112), (1, .int kn), (2, .int m), (3, .int f0), (4, .int st)]) dX11_sheet_112 (by decide) rfl ?_
            refine ez_iinc (v := (nI (k + 1))) (l' := [(6, .int ((nI (k + 1)))), (5, .int ((zsv f0 st k) + st)), (7, .int ((zsv f0 st k).toInt8.toInt32)), (0, .ref 112), (1, .int kn), (2, .int m), (3, .int f0), (4, .int st)]) dX11_sheet_114 rfl (nI_1 _) (by decide) rfl ?_
            refine ez_goto (tgt := 40) dX11_sheet_117 (by decide) ?_
            refine ez_sub (l' := [(6, .int ((nI (k + 1)))), (5, .int ((zsv f0 st k) + st)), (0, .ref 112), (1, .int kn), (2, .int m), (3, .int f0), (4, .int st)]) [0, 1, 3, 4, 5, 6, 7] rfl ?_
            exact ez_eq (l2 := [(6, .int (nI (k + 1))), (5, .int (zsv f0 st (k + 1))), (0, .ref 112), (1, .int kn), (2, .int m), (3, .int f0), (4, .int st)]) rfl rfl rfl rfl (ih (I56, La, oa) hQ57)
          · skip
            refine ez_iload (i := 6) dX11_sheet_85 rfl ?_
            refine ez_iload_n (i := 2) dX11_sheet_87 rfl rfl ?_
            refine ez_icmp_lt (tgt := 95) dX11_sheet_88 (by decide) (fun c58 => ?_) (fun c58 => ?_)
            · skip
              refine ez_iconst (v := 0) dX11_sheet_95 (by decide) ?_
              refine ez_bipush (v := 9) dX11_sheet_96 (by decide) ?_
              refine ez_iload (i := 7) dX11_sheet_98 rfl ?_
              refine ez_min dX11_sheet_100 xmX11_197 (Nat.le_of_ble_eq_true rfl) ?_
              refine ez_max dX11_sheet_103 xmX11_201 (Nat.le_of_ble_eq_true rfl) ?_
              refine ez_topE (y := zse kn m f0 st k) (by unfold zse; rw [z_put9, if_neg (show ¬ (kn = 3 ∨ m ≤ nI k) from fun g => g.elim c55 (fun g => absurd c58 (Int32.not_lt.mpr g))), zcut, if_pos (Classical.not_not.mp c37)]) ?_
              refine ez_isN (k := k) dX11_sheet_106 (hF.lt (by decide)) (hF.lx (by decide)) (hF.ka (by decide) rfl) (by omega) (by decide) ?_
              refine ez_nmI (fun I59 hI59 => ?_)
              have hQ60 : zQ n kd I L Rf I I59 La (T.w_x (zup (zsr T.x kn m f0 st k) k (zse kn m f0 st k))) (I 124) oa := by rw [hI59]; exact hQ0.nset
              refine ez_iload (i := 5) dX11_sheet_107 rfl ?_
              refine ez_iload (i := 4) dX11_sheet_109 rfl ?_
              refine ez_iadd dX11_sheet_111 ?_
              refine ez_istore (l' := [(5, .int ((zsv f0 st k) + st)), (7, .int ((zsv f0 st k).toInt8.toInt32)), (6, .int (nI k)), (0, .ref 112), (1, .int kn), (2, .int m), (3, .int f0), (4, .int st)]) dX11_sheet_112 (by decide) rfl ?_
              refine ez_iinc (v := (nI (k + 1))) (l' := [(6, .int ((nI (k + 1)))), (5, .int ((zsv f0 st k) + st)), (7, .int ((zsv f0 st k).toInt8.toInt32)), (0, .ref 112), (1, .int kn), (2, .int m), (3, .int f0), (4, .int st)]) dX11_sheet_114 rfl (nI_1 _) (by decide) rfl ?_
              refine ez_goto (tgt := 40) dX11_sheet_117 (by decide) ?_
              refine ez_sub (l' := [(6, .int ((nI (k + 1)))), (5, .int ((zsv f0 st k) + st)), (0, .ref 112), (1, .int kn), (2, .int m), (3, .int f0), (4, .int st)]) [0, 1, 3, 4, 5, 6, 7] rfl ?_
              exact ez_eq (l2 := [(6, .int (nI (k + 1))), (5, .int (zsv f0 st (k + 1))), (0, .ref 112), (1, .int kn), (2, .int m), (3, .int f0), (4, .int st)]) rfl rfl rfl rfl (ih (I59, La, oa) hQ60)
            · skip
              refine ez_iconst (v := 0) dX11_sheet_91 (by decide) ?_
              refine ez_goto (tgt := 106) dX11_sheet_92 (by decide) ?_
              refine ez_topE (y := zse kn m f0 st k) (by unfold zse; rw [if_pos (Or.inr (Int32.not_lt.mp c58))]) ?_
              refine ez_isN (k := k) dX11_sheet_106 (hF.lt (by decide)) (hF.lx (by decide)) (hF.ka (by decide) rfl) (by omega) (by decide) ?_
              refine ez_nmI (fun I61 hI61 => ?_)
              have hQ62 : zQ n kd I L Rf I I61 La (T.w_x (zup (zsr T.x kn m f0 st k) k (zse kn m f0 st k))) (I 124) oa := by rw [hI61]; exact hQ0.nset
              refine ez_iload (i := 5) dX11_sheet_107 rfl ?_
              refine ez_iload (i := 4) dX11_sheet_109 rfl ?_
              refine ez_iadd dX11_sheet_111 ?_
              refine ez_istore (l' := [(5, .int ((zsv f0 st k) + st)), (7, .int ((zsv f0 st k).toInt8.toInt32)), (6, .int (nI k)), (0, .ref 112), (1, .int kn), (2, .int m), (3, .int f0), (4, .int st)]) dX11_sheet_112 (by decide) rfl ?_
              refine ez_iinc (v := (nI (k + 1))) (l' := [(6, .int ((nI (k + 1)))), (5, .int ((zsv f0 st k) + st)), (7, .int ((zsv f0 st k).toInt8.toInt32)), (0, .ref 112), (1, .int kn), (2, .int m), (3, .int f0), (4, .int st)]) dX11_sheet_114 rfl (nI_1 _) (by decide) rfl ?_
              refine ez_goto (tgt := 40) dX11_sheet_117 (by decide) ?_
              refine ez_sub (l' := [(6, .int ((nI (k + 1)))), (5, .int ((zsv f0 st k) + st)), (0, .ref 112), (1, .int kn), (2, .int m), (3, .int f0), (4, .int st)]) [0, 1, 3, 4, 5, 6, 7] rfl ?_
              exact ez_eq (l2 := [(6, .int (nI (k + 1))), (5, .int (zsv f0 st (k + 1))), (0, .ref 112), (1, .int kn), (2, .int m), (3, .int f0), (4, .int st)]) rfl rfl rfl rfl (ih (I61, La, oa) hQ62)
      · rintro ⟨Ia, La, oa⟩ hQ0
        have hQ0 : zQ n kd I L Rf I Ia La (T.w_x (zsr T.x kn m f0 st T.c)) (I 124) oa := hQ0
        show ez_P _ _ _ _ _ _ 40 [(6, .int (nI T.c)), (5, .int (zsv f0 st T.c)), (0, .ref 112), (1, .int kn), (2, .int m), (3, .int f0), (4, .int st)] [] (n, sl, kd, Ia, La, Rf) _
        refine ez_iload (i := 6) dX11_sheet_40 rfl ?_
        refine ez_aload_n (i := 0) dX11_sheet_42 rfl rfl ?_
        refine ez_getI dX11_sheet_43 flX11_95 (hF.lt (by decide)) (hF.kc (by decide) rfl) ?_
        refine ez_topE (y := nI T.c) hQ0.M.c ?_
        refine ez_icmp_ge (tgt := 120) dX11_sheet_46 (by decide) (fun c63 => ?_) (fun c63 => absurd (nI_le (Nat.le_refl _) (by omega)) c63)
        refine ez_iload_n (i := 1) dX11_sheet_120 rfl rfl ?_
        refine ez_iconst (v := 3) dX11_sheet_121 (by decide) ?_
        refine ez_icmp_ne (tgt := 130) dX11_sheet_122 (by decide) (fun c64 => ?_) (fun c64 => ?_)
        · skip
          refine ez_aload_n (i := 0) dX11_sheet_130 rfl rfl ?_
          refine ez_callV (M1 := mX11_gravity) (rest := []) dX11_sheet_131 mlX11_228 mvX11_gravity rfl (hF.lt (by decide)) (hF.kc (by decide) rfl) (Nat.le_of_ble_eq_true rfl) rfl (y_gvT (I := Ia) (L := La) (d + 399) hQ0.M hO.c) eb_rok ?_
          rintro _ _ ⟨rfl, rfl⟩
          show ez_P _ _ _ _ _ _ 134 [(6, .int (nI T.c)), (5, .int (zsv f0 st T.c)), (0, .ref 112), (1, .int kn), (2, .int m), (3, .int f0), (4, .int st)] (.int (z_sum (zsr T.x kn m f0 st T.c) T.c) :: []) _ _
          refine ez_iret dX11_sheet_134 rfl rfl ?_
          rw [show s_sheet T kn m f0 st = (z_sum (zsr T.x kn m f0 st T.c) T.c, T.w_x (zsr T.x kn m f0 st T.c)) from by unfold s_sheet; rw [if_pos ⟨hk0, hm⟩, if_neg hno, if_neg c64]]
          exact hQ0.end
        · skip
          refine ez_bipush (v := (-3)) dX11_sheet_125 (by decide) ?_
          refine ez_goto (tgt := 134) dX11_sheet_127 (by decide) ?_
          refine ez_iret dX11_sheet_134 rfl rfl ?_
          rw [show s_sheet T kn m f0 st = ((-3), T.w_x (zsr T.x kn m f0 st T.c)) from by unfold s_sheet; rw [if_pos ⟨hk0, hm⟩, if_neg hno, if_pos (Classical.not_not.mp c64)]]
          exact hQ0.end
    · skip
      refine ez_bipush (v := (-2)) dX11_sheet_31 (by decide) ?_
      refine ez_iret dX11_sheet_33 rfl rfl ?_
      rw [show s_sheet T kn m f0 st = (-2, T) from by unfold s_sheet; rw [if_pos ⟨hk0, hm⟩, if_pos ⟨Int32.not_le.mp c5, Int32.not_le.mp c35⟩]]
      exact hQ2.end
theorem y_X11_sheet_no {n : Nat} {sl : Nat × Nat} {kd : Nat → Nat × Nat} {I : Nat → Nat → Int32} {L : Nat → Nat → Int64} {Rf : Nat → Nat → Option Nat} (d : Nat) {T : zT} {H : Nat} (hM : zM n kd I L Rf T) (hO : zOk H T) (hH : H ≤ 1000000000) {kn m f0 st : Int32} (hk0 : ¬ (0 ≤ kn ∧ kn ≤ 3))  : zq mX11_sheet (d + 400) [.ref 112, .int kn, .int m, .int f0, .int st] (n, sl, kd, I, L, Rf) (zpM n sl kd I L Rf (some (.int (s_sheet T kn m f0 st).1)) (s_sheet T kn m f0 st).2) := by
  have hF := hM.F; have hc7 := hO.c
  have hsp : s_sheet T kn m f0 st = ((-1), T) := (by unfold s_sheet; rw [if_neg (fun g => hk0 g.1)])
  rw [hsp]
  intro f B
  refine ez_meth pn_X.2.2.2.2.2.2.2.2.2.2.2 (Nat.le_of_ble_eq_true rfl) ?_
  show ez_P _ _ _ _ _ _ 0 [(0, .ref 112), (1, .int kn), (2, .int m), (3, .int f0), (4, .int st)] [] (n, sl, kd, I, L, Rf) _
  refine ez_aload_n (i := 0) dX11_sheet_0 rfl rfl ?_
  refine ez_iconst (v := 0) dX11_sheet_1 (by decide) ?_
  refine ez_pI dX11_sheet_2 plX11_89 (hF.lt (by decide)) (hF.lx (by decide)) (hF.kc (by decide) rfl) rfl rfl ?_
  refine ez_nmI (fun I1 hI1 => ?_)
  have hQ2 : zQ n kd I L Rf I I1 L T (I 124) (I 112 25) := by rw [hI1]; exact zQ.start hM
  refine ez_iload_n (i := 1) dX11_sheet_5 rfl rfl ?_
  refine ez_iconst (v := 0) dX11_sheet_6 (by decide) ?_
  refine ez_iconst (v := 3) dX11_sheet_7 (by decide) ?_
  refine ez_callS (M1 := mX11_in) (rest := []) dX11_sheet_8 mlX11_98 msX11_in rfl (Nat.le_of_ble_eq_true rfl) rfl (zq_b0 hk0 (zq_b (q_X11_in (d + 399) kn 0 3) (n, sl, kd, I1, L, Rf))) eb_rok ?_
  rintro _ _ ⟨rfl, rfl⟩
  show ez_P _ _ _ _ _ _ 11 [(0, .ref 112), (1, .int kn), (2, .int m), (3, .int f0), (4, .int st)] (.int 0 :: []) _ _
  refine ez_if_eq (tgt := 20) dX11_sheet_11 (by decide) (fun c3 => ?_) (fun c3 => absurd (by decide) c3)
  refine ez_iconst (v := (-1)) dX11_sheet_20 (by decide) ?_
  refine ez_iret dX11_sheet_21 rfl rfl ?_
  exact hQ2.end
theorem y_X11_sheet_nx {n : Nat} {sl : Nat × Nat} {kd : Nat → Nat × Nat} {I : Nat → Nat → Int32} {L : Nat → Nat → Int64} {Rf : Nat → Nat → Option Nat} (d : Nat) {T : zT} {H : Nat} (hM : zM n kd I L Rf T) (hO : zOk H T) (hH : H ≤ 1000000000) {kn m f0 st : Int32} (hk0 : 0 ≤ kn ∧ kn ≤ 3) (hm : ¬ m ≤ 7)  : zq mX11_sheet (d + 400) [.ref 112, .int kn, .int m, .int f0, .int st] (n, sl, kd, I, L, Rf) (zpM n sl kd I L Rf (some (.int (s_sheet T kn m f0 st).1)) (s_sheet T kn m f0 st).2) := by
  have hF := hM.F; have hc7 := hO.c
  have hsp : s_sheet T kn m f0 st = (-1, T) := (by unfold s_sheet; rw [if_neg (fun g => hm g.2)])
  rw [hsp]
  intro f B
  refine ez_meth pn_X.2.2.2.2.2.2.2.2.2.2.2 (Nat.le_of_ble_eq_true rfl) ?_
  show ez_P _ _ _ _ _ _ 0 [(0, .ref 112), (1, .int kn), (2, .int m), (3, .int f0), (4, .int st)] [] (n, sl, kd, I, L, Rf) _
  refine ez_aload_n (i := 0) dX11_sheet_0 rfl rfl ?_
  refine ez_iconst (v := 0) dX11_sheet_1 (by decide) ?_
  refine ez_pI dX11_sheet_2 plX11_89 (hF.lt (by decide)) (hF.lx (by decide)) (hF.kc (by decide) rfl) rfl rfl ?_
  refine ez_nmI (fun I1 hI1 => ?_)
  have hQ2 : zQ n kd I L Rf I I1 L T (I 124) (I 112 25) := by rw [hI1]; exact zQ.start hM
  refine ez_iload_n (i := 1) dX11_sheet_5 rfl rfl ?_
  refine ez_iconst (v := 0) dX11_sheet_6 (by decide) ?_
  refine ez_iconst (v := 3) dX11_sheet_7 (by decide) ?_
  refine ez_callS (M1 := mX11_in) (rest := []) dX11_sheet_8 mlX11_98 msX11_in rfl (Nat.le_of_ble_eq_true rfl) rfl (zq_b1 hk0 (zq_b (q_X11_in (d + 399) kn 0 3) (n, sl, kd, I1, L, Rf))) eb_rok ?_
  rintro _ _ ⟨rfl, rfl⟩
  show ez_P _ _ _ _ _ _ 11 [(0, .ref 112), (1, .int kn), (2, .int m), (3, .int f0), (4, .int st)] (.int 1 :: []) _ _
  refine ez_if_eq (tgt := 20) dX11_sheet_11 (by decide) (fun c3 => absurd c3 (by decide)) (fun c3 => ?_)
  refine ez_iload_n (i := 2) dX11_sheet_14 rfl rfl ?_
  refine ez_bipush (v := 7) dX11_sheet_15 (by decide) ?_
  refine ez_icmp_le (tgt := 22) dX11_sheet_17 (by decide) (fun c4 => absurd c4 hm) (fun c4 => ?_)
  refine ez_iconst (v := (-1)) dX11_sheet_20 (by decide) ?_
  refine ez_iret dX11_sheet_21 rfl rfl ?_
  exact hQ2.end
theorem y_X11_sheet {n : Nat} {sl : Nat × Nat} {kd : Nat → Nat × Nat} {I : Nat → Nat → Int32} {L : Nat → Nat → Int64} {Rf : Nat → Nat → Option Nat} (d : Nat) {T : zT} {H : Nat} (hM : zM n kd I L Rf T) (hO : zOk H T) (hH : H ≤ 1000000000) (kn m f0 st : Int32) : zq mX11_sheet (d + 400) [.ref 112, .int kn, .int m, .int f0, .int st] (n, sl, kd, I, L, Rf) (zpM n sl kd I L Rf (some (.int (s_sheet T kn m f0 st).1)) (s_sheet T kn m f0 st).2) := by
  by_cases hk0 : 0 ≤ kn ∧ kn ≤ 3
  · by_cases hm : m ≤ 7
    · exact y_X11_sheet_ok d hM hO hH hk0 hm
    · exact y_X11_sheet_nx d hM hO hH hk0 hm
  · exact y_X11_sheet_no d hM hO hH hk0
theorem k_sheet {n : Nat} {sl : Nat × Nat} {kd : Nat → Nat × Nat} {I : Nat → Nat → Int32} {L : Nat → Nat → Int64} {Rf : Nat → Nat → Option Nat} (d : Nat) {T : zT} {H : Nat} {I0 g : Nat → Nat → Int32} {L0 : Nat → Nat → Int64} {R0 : Nat → Nat → Option Nat} {G Bf : Option (Nat → Int32)} {w : Bool} (hK : zK n kd I0 L0 R0 g I L Rf T G Bf w) (hO : zOk H T) (hH : H ≤ 1000000000) (kn m f0 st : Int32) (hk3 : kn = 3 → m = 0) : zq mX7_takeSheet (d + 20) [.ref 21, .int kn, .int m, .int f0, .int st] (n, sl, kd, I, L, Rf) (zpK n sl kd I0 L0 R0 g L Rf (T.w_x (zsr T.x kn m f0 st T.c)) G Bf false none) := by
  have hC := hK.C; have hF := hC.F; have hc7 := hO.c
  intro f B
  refine ez_meth pn_X.2.2.2.2.2.2.2.1 (Nat.le_of_ble_eq_true rfl) ?_
  have hK1 : zK n kd I0 L0 R0 g I L Rf (T.w_x T.x) G Bf false := hK.sh0
  show ez_P _ _ _ _ _ _ 0 [(0, .ref 21), (1, .int kn), (2, .int m), (3, .int f0), (4, .int st)] [] (n, sl, kd, I, L, Rf) _
  refine ez_iload_n (i := 3) dX7_takeSheet_0 rfl rfl ?_
  refine ez_istore (l' := [(5, .int f0), (0, .ref 21), (1, .int kn), (2, .int m), (3, .int f0), (4, .int st)]) dX7_takeSheet_1 (by decide) rfl ?_
  refine ez_iconst (v := 0) dX7_takeSheet_3 (by decide) ?_
  refine ez_istore (l' := [(6, .int 0), (5, .int f0), (0, .ref 21), (1, .int kn), (2, .int m), (3, .int f0), (4, .int st)]) dX7_takeSheet_4 (by decide) rfl ?_
  refine ez_eq (l2 := [(6, .int (nI 0)), (5, .int (zsv f0 st 0)), (0, .ref 21), (1, .int kn), (2, .int m), (3, .int f0), (4, .int st)]) (σ2 := (n, sl, kd, I, L, Rf)) rfl rfl rfl rfl ?_
  refine ez_for T.c (fun k (a : (Nat → Nat → Int32)) => ([(6, .int (nI k)), (5, .int (zsv f0 st k)), (0, .ref 21), (1, .int kn), (2, .int m), (3, .int f0), (4, .int st)], (n, sl, kd, a, L, Rf))) (fun k a => zK n kd I0 L0 R0 g a L Rf (T.w_x (zsr T.x kn m f0 st k)) G Bf false) ?_ ?_ T.c 0 (I) (by omega) hK1
  · rintro k Ia hk hKl ih
    have hKl : zK n kd I0 L0 R0 g Ia L Rf (T.w_x (zsr T.x kn m f0 st k)) G Bf false := hKl
    show ez_P _ _ _ _ _ _ 6 [(6, .int (nI k)), (5, .int (zsv f0 st k)), (0, .ref 21), (1, .int kn), (2, .int m), (3, .int f0), (4, .int st)] [] (n, sl, kd, Ia, L, Rf) _
    refine ez_iload (i := 6) dX7_takeSheet_6 rfl ?_
    refine ez_aload_n (i := 0) dX7_takeSheet_8 rfl rfl ?_
    refine ez_getI dX7_takeSheet_9 flX7_25 (hF.lt (by decide)) (hF.kc (by decide) rfl) ?_
    refine ez_topE (y := nI T.c) hKl.C.sh.cr ?_
    refine ez_icmp_ge (tgt := 78) dX7_takeSheet_12 (by decide) (fun c1 => absurd c1 (nI_ge hk (by omega))) (fun c1 => ?_)
    refine ez_iload_n (i := 1) dX7_takeSheet_15 rfl rfl ?_
    refine ez_if_ne (tgt := 25) dX7_takeSheet_16 (by decide) (fun c2 => ?_) (fun c2 => ?_)
    · skip
      refine ez_iload_n (i := 1) dX7_takeSheet_25 rfl rfl ?_
      refine ez_iconst (v := 1) dX7_takeSheet_26 (by decide) ?_
      refine ez_icmp_ne (tgt := 36) dX7_takeSheet_27 (by decide) (fun c3 => ?_) (fun c3 => ?_)
      · skip
        refine ez_iload (i := 5) dX7_takeSheet_36 rfl ?_
        refine ez_istore (l' := [(7, .int (zsv f0 st k)), (6, .int (nI k)), (5, .int (zsv f0 st k)), (0, .ref 21), (1, .int kn), (2, .int m), (3, .int f0), (4, .int st)]) dX7_takeSheet_38 (by decide) rfl ?_
        refine ez_aload_n (i := 0) dX7_takeSheet_40 rfl rfl ?_
        refine ez_getR dX7_takeSheet_41 flX7_9 (hF.lt (by decide)) (hF.kc (by decide) rfl) (hF.pt 18 rfl) ?_
        refine ez_iload (i := 6) dX7_takeSheet_44 rfl ?_
        refine ez_iload (i := 6) dX7_takeSheet_46 rfl ?_
        refine ez_iload_n (i := 2) dX7_takeSheet_48 rfl rfl ?_
        refine ez_icmp_ge (tgt := 63) dX7_takeSheet_49 (by decide) (fun c4 => ?_) (fun c4 => ?_)
        · skip
          refine ez_iconst (v := 0) dX7_takeSheet_63 (by decide) ?_
          refine ez_topE (y := zse kn m f0 st k) (by unfold zse; rw [if_pos (Or.inr c4)]) ?_
          refine ez_isN (k := k) dX7_takeSheet_64 (hF.lt (by decide)) (hF.lx (by decide)) (hF.ka (by decide) rfl) (by omega) (by decide) ?_
          refine ez_nmI (fun I5 hI5 => ?_)
          have hK6 : zK n kd I0 L0 R0 g I5 L Rf (T.w_x (zup (zsr T.x kn m f0 st k) k (zse kn m f0 st k))) G Bf false := by rw [hI5]; exact hKl.sh (hKl.C.sh.gra hc7 (by omega) _) (fun c hc => z_set_ne (by omega))
          refine ez_iload (i := 5) dX7_takeSheet_65 rfl ?_
          refine ez_iload (i := 4) dX7_takeSheet_67 rfl ?_
          refine ez_iadd dX7_takeSheet_69 ?_
          refine ez_istore (l' := [(5, .int ((zsv f0 st k) + st)), (7, .int (zsv f0 st k)), (6, .int (nI k)), (0, .ref 21), (1, .int kn), (2, .int m), (3, .int f0), (4, .int st)]) dX7_takeSheet_70 (by decide) rfl ?_
          refine ez_iinc (v := (nI (k + 1))) (l' := [(6, .int ((nI (k + 1)))), (5, .int ((zsv f0 st k) + st)), (7, .int (zsv f0 st k)), (0, .ref 21), (1, .int kn), (2, .int m), (3, .int f0), (4, .int st)]) dX7_takeSheet_72 rfl (nI_1 _) (by decide) rfl ?_
          refine ez_goto (tgt := 6) dX7_takeSheet_75 (by decide) ?_
          refine ez_sub (l' := [(6, .int ((nI (k + 1)))), (5, .int ((zsv f0 st k) + st)), (0, .ref 21), (1, .int kn), (2, .int m), (3, .int f0), (4, .int st)]) [0, 1, 3, 4, 5, 6, 7] rfl ?_
          exact ez_eq (l2 := [(6, .int (nI (k + 1))), (5, .int (zsv f0 st (k + 1))), (0, .ref 21), (1, .int kn), (2, .int m), (3, .int f0), (4, .int st)]) rfl rfl rfl rfl (ih (I5) hK6)
        · skip
          refine ez_iload (i := 7) dX7_takeSheet_52 rfl ?_
          refine ez_iconst (v := 0) dX7_takeSheet_54 (by decide) ?_
          refine ez_bipush (v := 9) dX7_takeSheet_55 (by decide) ?_
          refine ez_callS (M1 := mX10_putTo) (rest := [.int (nI k), .ref 22]) dX7_takeSheet_57 mlX7_52 msX10_putTo rfl (Nat.le_of_ble_eq_true rfl) rfl (zq_r (q_X10_putTo (d + 19) (zsv f0 st k) 0 9) (n, sl, kd, Ia, L, Rf)) eb_rok ?_
          rintro _ _ ⟨rfl, rfl⟩
          show ez_P _ _ _ _ _ _ 60 [(7, .int (zsv f0 st k)), (6, .int (nI k)), (5, .int (zsv f0 st k)), (0, .ref 21), (1, .int kn), (2, .int m), (3, .int f0), (4, .int st)] (.int (z_put (zsv f0 st k) 0 9) :: [.int (nI k), .ref 22]) _ _
          refine ez_goto (tgt := 64) dX7_takeSheet_60 (by decide) ?_
          refine ez_topE (y := zse kn m f0 st k) (by unfold zse; rw [if_neg (show ¬ (kn = 3 ∨ m ≤ nI k) from fun g => g.elim (fun g => c4 (by rw [hk3 g]; exact nI_pos' (by omega))) c4), zcut, if_neg c2, if_neg c3]) ?_
          refine ez_isN (k := k) dX7_takeSheet_64 (hF.lt (by decide)) (hF.lx (by decide)) (hF.ka (by decide) rfl) (by omega) (by decide) ?_
          refine ez_nmI (fun I7 hI7 => ?_)
          have hK8 : zK n kd I0 L0 R0 g I7 L Rf (T.w_x (zup (zsr T.x kn m f0 st k) k (zse kn m f0 st k))) G Bf false := by rw [hI7]; exact hKl.sh (hKl.C.sh.gra hc7 (by omega) _) (fun c hc => z_set_ne (by omega))
          refine ez_iload (i := 5) dX7_takeSheet_65 rfl ?_
          refine ez_iload (i := 4) dX7_takeSheet_67 rfl ?_
          refine ez_iadd dX7_takeSheet_69 ?_
          refine ez_istore (l' := [(5, .int ((zsv f0 st k) + st)), (7, .int (zsv f0 st k)), (6, .int (nI k)), (0, .ref 21), (1, .int kn), (2, .int m), (3, .int f0), (4, .int st)]) dX7_takeSheet_70 (by decide) rfl ?_
          refine ez_iinc (v := (nI (k + 1))) (l' := [(6, .int ((nI (k + 1)))), (5, .int ((zsv f0 st k) + st)), (7, .int (zsv f0 st k)), (0, .ref 21), (1, .int kn), (2, .int m), (3, .int f0), (4, .int st)]) dX7_takeSheet_72 rfl (nI_1 _) (by decide) rfl ?_
          refine ez_goto (tgt := 6) dX7_takeSheet_75 (by decide) ?_
          refine ez_sub (l' := [(6, .int ((nI (k + 1)))), (5, .int ((zsv f0 st k) + st)), (0, .ref 21), (1, .int kn), (2, .int m), (3, .int f0), (4, .int st)]) [0, 1, 3, 4, 5, 6, 7] rfl ?_
          exact ez_eq (l2 := [(6, .int (nI (k + 1))), (5, .int (zsv f0 st (k + 1))), (0, .ref 21), (1, .int kn), (2, .int m), (3, .int f0), (4, .int st)]) rfl rfl rfl rfl (ih (I7) hK8)
      · skip
        refine ez_iload (i := 5) dX7_takeSheet_30 rfl ?_
        refine ez_i2s dX7_takeSheet_32 rfl ?_
        refine ez_goto (tgt := 38) dX7_takeSheet_33 (by decide) ?_
        refine ez_istore (l' := [(7, .int ((zsv f0 st k).toInt16.toInt32)), (6, .int (nI k)), (5, .int (zsv f0 st k)), (0, .ref 21), (1, .int kn), (2, .int m), (3, .int f0), (4, .int st)]) dX7_takeSheet_38 (by decide) rfl ?_
        refine ez_aload_n (i := 0) dX7_takeSheet_40 rfl rfl ?_
        refine ez_getR dX7_takeSheet_41 flX7_9 (hF.lt (by decide)) (hF.kc (by decide) rfl) (hF.pt 18 rfl) ?_
        refine ez_iload (i := 6) dX7_takeSheet_44 rfl ?_
        refine ez_iload (i := 6) dX7_takeSheet_46 rfl ?_
        refine ez_iload_n (i := 2) dX7_takeSheet_48 rfl rfl ?_
        refine ez_icmp_ge (tgt := 63) dX7_takeSheet_49 (by decide) (fun c9 => ?_) (fun c9 => ?_)
        · skip
          refine ez_iconst (v := 0) dX7_takeSheet_63 (by decide) ?_
          refine ez_topE (y := zse kn m f0 st k) (by unfold zse; rw [if_pos (Or.inr c9)]) ?_
          refine ez_isN (k := k) dX7_takeSheet_64 (hF.lt (by decide)) (hF.lx (by decide)) (hF.ka (by decide) rfl) (by omega) (by decide) ?_
          refine ez_nmI (fun I10 hI10 => ?_)
          have hK11 : zK n kd I0 L0 R0 g I10 L Rf (T.w_x (zup (zsr T.x kn m f0 st k) k (zse kn m f0 st k))) G Bf false := by rw [hI10]; exact hKl.sh (hKl.C.sh.gra hc7 (by omega) _) (fun c hc => z_set_ne (by omega))
          refine ez_iload (i := 5) dX7_takeSheet_65 rfl ?_
          refine ez_iload (i := 4) dX7_takeSheet_67 rfl ?_
          refine ez_iadd dX7_takeSheet_69 ?_
          refine ez_istore (l' := [(5, .int ((zsv f0 st k) + st)), (7, .int ((zsv f0 st k).toInt16.toInt32)), (6, .int (nI k)), (0, .ref 21), (1, .int kn), (2, .int m), (3, .int f0), (4, .int st)]) dX7_takeSheet_70 (by decide) rfl ?_
          refine ez_iinc (v := (nI (k + 1))) (l' := [(6, .int ((nI (k + 1)))), (5, .int ((zsv f0 st k) + st)), (7, .int ((zsv f0 st k).toInt16.toInt32)), (0, .ref 21), (1, .int kn), (2, .int m), (3, .int f0), (4, .int st)]) dX7_takeSheet_72 rfl (nI_1 _) (by decide) rfl ?_
          refine ez_goto (tgt := 6) dX7_takeSheet_75 (by decide) ?_
          refine ez_sub (l' := [(6, .int ((nI (k + 1)))), (5, .int ((zsv f0 st k) + st)), (0, .ref 21), (1, .int kn), (2, .int m), (3, .int f0), (4, .int st)]) [0, 1, 3, 4, 5, 6, 7] rfl ?_
          exact ez_eq (l2 := [(6, .int (nI (k + 1))), (5, .int (zsv f0 st (k + 1))), (0, .ref 21), (1, .int kn), (2, .int m), (3, .int f0), (4, .int st)]) rfl rfl rfl rfl (ih (I10) hK11)
        · skip
          refine ez_iload (i := 7) dX7_takeSheet_52 rfl ?_
          refine ez_iconst (v := 0) dX7_takeSheet_54 (by decide) ?_
          refine ez_bipush (v := 9) dX7_takeSheet_55 (by decide) ?_
          refine ez_callS (M1 := mX10_putTo) (rest := [.int (nI k), .ref 22]) dX7_takeSheet_57 mlX7_52 msX10_putTo rfl (Nat.le_of_ble_eq_true rfl) rfl (zq_r (q_X10_putTo (d + 19) ((zsv f0 st k).toInt16.toInt32) 0 9) (n, sl, kd, Ia, L, Rf)) eb_rok ?_
          rintro _ _ ⟨rfl, rfl⟩
          show ez_P _ _ _ _ _ _ 60 [(7, .int ((zsv f0 st k).toInt16.toInt32)), (6, .int (nI k)), (5, .int (zsv f0 st k)), (0, .ref 21), (1, .int kn), (2, .int m), (3, .int f0), (4, .int st)] (.int (z_put ((zsv f0 st k).toInt16.toInt32) 0 9) :: [.int (nI k), .ref 22]) _ _
          refine ez_goto (tgt := 64) dX7_takeSheet_60 (by decide) ?_
          refine ez_topE (y := zse kn m f0 st k) (by unfold zse; rw [if_neg (show ¬ (kn = 3 ∨ m ≤ nI k) from fun g => g.elim (fun g => c9 (by rw [hk3 g]; exact nI_pos' (by omega))) c9), zcut, if_neg c2, if_pos (Classical.not_not.mp c3)]) ?_
          refine ez_isN (k := k) dX7_takeSheet_64 (hF.lt (by decide)) (hF.lx (by decide)) (hF.ka (by decide) rfl) (by omega) (by decide) ?_
          refine ez_nmI (fun I12 hI12 => ?_)
          have hK13 : zK n kd I0 L0 R0 g I12 L Rf (T.w_x (zup (zsr T.x kn m f0 st k) k (zse kn m f0 st k))) G Bf false := by rw [hI12]; exact hKl.sh (hKl.C.sh.gra hc7 (by omega) _) (fun c hc => z_set_ne (by omega))
          refine ez_iload (i := 5) dX7_takeSheet_65 rfl ?_
          refine ez_iload (i := 4) dX7_takeSheet_67 rfl ?_
          refine ez_iadd dX7_takeSheet_69 ?_
          refine ez_istore (l' := [(5, .int ((zsv f0 st k) + st)), (7, .int ((zsv f0 st k).toInt16.toInt32)), (6, .int (nI k)), (0, .ref 21), (1, .int kn), (2, .int m), (3, .int f0), (4, .int st)]) dX7_takeSheet_70 (by decide) rfl ?_
          refine ez_iinc (v := (nI (k + 1))) (l' := [(6, .int ((nI (k + 1)))), (5, .int ((zsv f0 st k) + st)), (7, .int ((zsv f0 st k).toInt16.toInt32)), (0, .ref 21), (1, .int kn), (2, .int m), (3, .int f0), (4, .int st)]) dX7_takeSheet_72 rfl (nI_1 _) (by decide) rfl ?_
          refine ez_goto (tgt := 6) dX7_takeSheet_75 (by decide) ?_
          refine ez_sub (l' := [(6, .int ((nI (k + 1)))), (5, .int ((zsv f0 st k) + st)), (0, .ref 21), (1, .int kn), (2, .int m), (3, .int f0), (4, .int st)]) [0, 1, 3, 4, 5, 6, 7] rfl ?_
          exact ez_eq (l2 := [(6, .int (nI (k + 1))), (5, .int (zsv f0 st (k + 1))), (0, .ref 21), (1, .int kn), (2, .int m), (3, .int f0), (4, .int st)]) rfl rfl rfl rfl (ih (I12) hK13)
    · skip
      refine ez_iload (i := 5) dX7_takeSheet_19 rfl ?_
      refine ez_i2b dX7_takeSheet_21 rfl ?_
      refine ez_goto (tgt := 38) dX7_takeSheet_22 (by decide) ?_
      refine ez_istore (l' := [(7, .int ((zsv f0 st k).toInt8.toInt32)), (6, .int (nI k)), (5, .int (zsv f0 st k)), (0, .ref 21), (1, .int kn), (2, .int m), (3, .int f0), (4, .int st)]) dX7_takeSheet_38 (by decide) rfl ?_
      refine ez_aload_n (i := 0) dX7_takeSheet_40 rfl rfl ?_
      refine ez_getR dX7_takeSheet_41 flX7_9 (hF.lt (by decide)) (hF.kc (by decide) rfl) (hF.pt 18 rfl) ?_
      refine ez_iload (i := 6) dX7_takeSheet_44 rfl ?_
      refine ez_iload (i := 6) dX7_takeSheet_46 rfl ?_
      refine ez_iload_n (i := 2) dX7_takeSheet_48 rfl rfl ?_
      refine ez_icmp_ge (tgt := 63) dX7_takeSheet_49 (by decide) (fun c14 => ?_) (fun c14 => ?_)
      · skip
        refine ez_iconst (v := 0) dX7_takeSheet_63 (by decide) ?_
        refine ez_topE (y := zse kn m f0 st k) (by unfold zse; rw [if_pos (Or.inr c14)]) ?_
        refine ez_isN (k := k) dX7_takeSheet_64 (hF.lt (by decide)) (hF.lx (by decide)) (hF.ka (by decide) rfl) (by omega) (by decide) ?_
        refine ez_nmI (fun I15 hI15 => ?_)
        have hK16 : zK n kd I0 L0 R0 g I15 L Rf (T.w_x (zup (zsr T.x kn m f0 st k) k (zse kn m f0 st k))) G Bf false := by rw [hI15]; exact hKl.sh (hKl.C.sh.gra hc7 (by omega) _) (fun c hc => z_set_ne (by omega))
        refine ez_iload (i := 5) dX7_takeSheet_65 rfl ?_
        refine ez_iload (i := 4) dX7_takeSheet_67 rfl ?_
        refine ez_iadd dX7_takeSheet_69 ?_
        refine ez_istore (l' := [(5, .int ((zsv f0 st k) + st)), (7, .int ((zsv f0 st k).toInt8.toInt32)), (6, .int (nI k)), (0, .ref 21), (1, .int kn), (2, .int m), (3, .int f0), (4, .int st)]) dX7_takeSheet_70 (by decide) rfl ?_
        refine ez_iinc (v := (nI (k + 1))) (l' := [(6, .int ((nI (k + 1)))), (5, .int ((zsv f0 st k) + st)), (7, .int ((zsv f0 st k).toInt8.toInt32)), (0, .ref 21), (1, .int kn), (2, .int m), (3, .int f0), (4, .int st)]) dX7_takeSheet_72 rfl (nI_1 _) (by decide) rfl ?_
        refine ez_goto (tgt := 6) dX7_takeSheet_75 (by decide) ?_
        refine ez_sub (l' := [(6, .int ((nI (k + 1)))), (5, .int ((zsv f0 st k) + st)), (0, .ref 21), (1, .int kn), (2, .int m), (3, .int f0), (4, .int st)]) [0, 1, 3, 4, 5, 6, 7] rfl ?_
        exact ez_eq (l2 := [(6, .int (nI (k + 1))), (5, .int (zsv f0 st (k + 1))), (0, .ref 21), (1, .int kn), (2, .int m), (3, .int f0), (4, .int st)]) rfl rfl rfl rfl (ih (I15) hK16)
      · skip
        refine ez_iload (i := 7) dX7_takeSheet_52 rfl ?_
        refine ez_iconst (v := 0) dX7_takeSheet_54 (by decide) ?_
        refine ez_bipush (v := 9) dX7_takeSheet_55 (by decide) ?_
        refine ez_callS (M1 := mX10_putTo) (rest := [.int (nI k), .ref 22]) dX7_takeSheet_57 mlX7_52 msX10_putTo rfl (Nat.le_of_ble_eq_true rfl) rfl (zq_r (q_X10_putTo (d + 19) ((zsv f0 st k).toInt8.toInt32) 0 9) (n, sl, kd, Ia, L, Rf)) eb_rok ?_
        rintro _ _ ⟨rfl, rfl⟩
        show ez_P _ _ _ _ _ _ 60 [(7, .int ((zsv f0 st k).toInt8.toInt32)), (6, .int (nI k)), (5, .int (zsv f0 st k)), (0, .ref 21), (1, .int kn), (2, .int m), (3, .int f0), (4, .int st)] (.int (z_put ((zsv f0 st k).toInt8.toInt32) 0 9) :: [.int (nI k), .ref 22]) _ _
        refine ez_goto (tgt := 64) dX7_takeSheet_60 (by decide) ?_
        refine ez_topE (y := zse kn m f0 st k) (by unfold zse; rw [if_neg (show ¬ (kn = 3 ∨ m ≤ nI k) from fun g => g.elim (fun g => c14 (by rw [hk3 g]; exact nI_pos' (by omega))) c14), zcut, if_pos (Classical.not_not.mp c2)]) ?_
        refine ez_isN (k := k) dX7_takeSheet_64 (hF.lt (by decide)) (hF.lx (by decide)) (hF.ka (by decide) rfl) (by omega) (by decide) ?_
        refine ez_nmI (fun I17 hI17 => ?_)
        have hK18 : zK n kd I0 L0 R0 g I17 L Rf (T.w_x (zup (zsr T.x kn m f0 st k) k (zse kn m f0 st k))) G Bf false := by rw [hI17]; exact hKl.sh (hKl.C.sh.gra hc7 (by omega) _) (fun c hc => z_set_ne (by omega))
        refine ez_iload (i := 5) dX7_takeSheet_65 rfl ?_
        refine ez_iload (i := 4) dX7_takeSheet_67 rfl ?_
        refine ez_iadd dX7_takeSheet_69 ?_
        refine ez_istore (l' := [(5, .int ((zsv f0 st k) + st)), (7, .int ((zsv f0 st k).toInt8.toInt32)), (6, .int (nI k)), (0, .ref 21), (1, .int kn), (2, .int m), (3, .int f0), (4, .int st)]) dX7_takeSheet_70 (by decide) rfl ?_
        refine ez_iinc (v := (nI (k + 1))) (l' := [(6, .int ((nI (k + 1)))), (5, .int ((zsv f0 st k) + st)), (7, .int ((zsv f0 st k).toInt8.toInt32)), (0, .ref 21), (1, .int kn), (2, .int m), (3, .int f0), (4, .int st)]) dX7_takeSheet_72 rfl (nI_1 _) (by decide) rfl ?_
        refine ez_goto (tgt := 6) dX7_takeSheet_75 (by decide) ?_
        refine ez_sub (l' := [(6, .int ((nI (k + 1)))), (5, .int ((zsv f0 st k) + st)), (0, .ref 21), (1, .int kn), (2, .int m), (3, .int f0), (4, .int st)]) [0, 1, 3, 4, 5, 6, 7] rfl ?_
        exact ez_eq (l2 := [(6, .int (nI (k + 1))), (5, .int (zsv f0 st (k + 1))), (0, .ref 21), (1, .int kn), (2, .int m), (3, .int f0), (4, .int st)]) rfl rfl rfl rfl (ih (I17) hK18)
  · rintro Ia hKl
    have hKl : zK n kd I0 L0 R0 g Ia L Rf (T.w_x (zsr T.x kn m f0 st T.c)) G Bf false := hKl
    show ez_P _ _ _ _ _ _ 6 [(6, .int (nI T.c)), (5, .int (zsv f0 st T.c)), (0, .ref 21), (1, .int kn), (2, .int m), (3, .int f0), (4, .int st)] [] (n, sl, kd, Ia, L, Rf) _
    refine ez_iload (i := 6) dX7_takeSheet_6 rfl ?_
    refine ez_aload_n (i := 0) dX7_takeSheet_8 rfl rfl ?_
    refine ez_getI dX7_takeSheet_9 flX7_25 (hF.lt (by decide)) (hF.kc (by decide) rfl) ?_
    refine ez_topE (y := nI T.c) hKl.C.sh.cr ?_
    refine ez_icmp_ge (tgt := 78) dX7_takeSheet_12 (by decide) (fun c19 => ?_) (fun c19 => absurd (nI_le (Nat.le_refl _) (by omega)) c19)
    refine ez_vret dX7_takeSheet_78 rfl ?_
    exact ⟨rfl, _, rfl, hKl⟩
theorem zsr_3 {x : Nat → Int32} {m f st : Int32} : ∀ k, zsr x 3 0 0 0 k = zsr x 3 m f st k := by
  intro k
  induction k with
  | zero => rfl
  | succ k ih => rw [zsr, zsr, ih]; unfold zse; rw [if_pos (Or.inl rfl), if_pos (Or.inl rfl)]
theorem c_sheet_3 {n : Nat} {sl : Nat × Nat} {kd : Nat → Nat × Nat} {I : Nat → Nat → Int32} {L : Nat → Nat → Int64} {Rf : Nat → Nat → Option Nat} (d : Nat) {T : zT} {H : Nat} (hC : zC n kd I L Rf T) (hO : zOk H T) (hH : H ≤ 1000000000) {m f0 st : Int32} (hm : m ≤ 7) : zq mX10_sheet (d + 60) [.ref 0, .int 3, .int m, .int f0, .int st] (n, sl, kd, I, L, Rf) (zpC n sl kd I L Rf (some (.int (s_sheet T 3 m f0 st).1)) (s_sheet T 3 m f0 st).2) := by
  have hF := hC.F; have hc7 := hO.c
  have hK0 : zK n kd I L Rf I I L Rf T none none false := zK.start hC
  intro f B
  refine ez_meth pn_X.2.2.2.2.2.2.2.2.2.2.1 (Nat.le_of_ble_eq_true rfl) ?_
  show ez_P _ _ _ _ _ _ 0 [(0, .ref 0), (1, .int 3), (2, .int m), (3, .int f0), (4, .int st)] [] (n, sl, kd, I, L, Rf) _
  refine ez_iload_n (i := 1) dX10_sheet_0 rfl rfl ?_
  refine ez_iconst (v := 0) dX10_sheet_1 (by decide) ?_
  refine ez_iconst (v := 3) dX10_sheet_2 (by decide) ?_
  refine ez_callS (M1 := mX10_within) (rest := []) dX10_sheet_3 mlX10_158 msX10_within rfl (Nat.le_of_ble_eq_true rfl) rfl (zq_b1 (by decide) (zq_b (q_X10_within (d + 59) 3 0 3) (n, sl, kd, I, L, Rf))) eb_rok ?_
  rintro _ _ ⟨rfl, rfl⟩
  show ez_P _ _ _ _ _ _ 6 [(0, .ref 0), (1, .int 3), (2, .int m), (3, .int f0), (4, .int st)] (.int 1 :: []) _ _
  refine ez_if_eq (tgt := 15) dX10_sheet_6 (by decide) (fun c1 => absurd c1 (by decide)) (fun c1 => ?_)
  refine ez_iload_n (i := 2) dX10_sheet_9 rfl rfl ?_
  refine ez_bipush (v := 7) dX10_sheet_10 (by decide) ?_
  refine ez_icmp_le (tgt := 17) dX10_sheet_12 (by decide) (fun c2 => ?_) (fun c2 => absurd hm c2)
  refine ez_iload_n (i := 1) dX10_sheet_17 rfl rfl ?_
  refine ez_iconst (v := 3) dX10_sheet_18 (by decide) ?_
  refine ez_icmp_ne (tgt := 36) dX10_sheet_19 (by decide) (fun c3 => absurd c3 (by decide)) (fun c3 => ?_)
  refine ez_aload_n (i := 0) dX10_sheet_22 rfl rfl ?_
  refine ez_getR dX10_sheet_23 flX10_33 (hF.lt (by decide)) (hF.kc (by decide) rfl) (hF.pt 21 rfl) ?_
  refine ez_iload_n (i := 1) dX10_sheet_26 rfl rfl ?_
  refine ez_iconst (v := 0) dX10_sheet_27 (by decide) ?_
  refine ez_iconst (v := 0) dX10_sheet_28 (by decide) ?_
  refine ez_iconst (v := 0) dX10_sheet_29 (by decide) ?_
  refine ez_callV (M1 := mX7_takeSheet) (rest := []) dX10_sheet_30 mlX10_181 mvX7_takeSheet rfl (hF.lt (by decide)) (hF.kc (by decide) rfl) (Nat.le_of_ble_eq_true rfl) rfl (k_sheet (T := T) (I := I) (L := L) (d + 39) hK0 hO hH 3 0 0 0 (fun e => rfl)) zpK_ok ?_
  rintro _ _ ⟨rfl, I4, rfl, hK5⟩
  show ez_P _ _ _ _ _ _ 33 [(0, .ref 0), (1, .int 3), (2, .int m), (3, .int f0), (4, .int st)] [] (n, sl, kd, I4, L, Rf) _
  have hK5 : zK n kd I L Rf I I4 L Rf (T.w_x (zsr T.x 3 0 0 0 T.c)) none none false := hK5
  refine ez_bipush (v := (-3)) dX10_sheet_33 (by decide) ?_
  refine ez_iret dX10_sheet_35 rfl rfl ?_
  rw [show s_sheet T 3 m f0 st = (-3, T.w_x (zsr T.x 3 0 0 0 T.c)) from by unfold s_sheet; rw [if_pos ⟨by decide, hm⟩, if_neg (fun g => absurd g.1 (by decide)), if_pos rfl, zsr_3]]
  exact hK5.end
theorem z_lt3 {k : Int32} (h : k ≤ 3) (h3 : ¬ k = 3) : k < 3 := Int32.lt_of_le_of_ne h h3
theorem c_sheet_ok {n : Nat} {sl : Nat × Nat} {kd : Nat → Nat × Nat} {I : Nat → Nat → Int32} {L : Nat → Nat → Int64} {Rf : Nat → Nat → Option Nat} (d : Nat) {T : zT} {H : Nat} (hC : zC n kd I L Rf T) (hO : zOk H T) (hH : H ≤ 1000000000) {kn m f0 st : Int32} (hk0 : 0 ≤ kn ∧ kn ≤ 3) (hm : m ≤ 7) (h3 : ¬ kn = 3) : zq mX10_sheet (d + 60) [.ref 0, .int kn, .int m, .int f0, .int st] (n, sl, kd, I, L, Rf) (zpC n sl kd I L Rf (some (.int (s_sheet T kn m f0 st).1)) (s_sheet T kn m f0 st).2) := by
  have hF := hC.F; have hc7 := hO.c
  have hK0 : zK n kd I L Rf I I L Rf T none none false := zK.start hC
  intro f B
  refine ez_meth pn_X.2.2.2.2.2.2.2.2.2.2.1 (Nat.le_of_ble_eq_true rfl) ?_
  show ez_P _ _ _ _ _ _ 0 [(0, .ref 0), (1, .int kn), (2, .int m), (3, .int f0), (4, .int st)] [] (n, sl, kd, I, L, Rf) _
  refine ez_iload_n (i := 1) dX10_sheet_0 rfl rfl ?_
  refine ez_iconst (v := 0) dX10_sheet_1 (by decide) ?_
  refine ez_iconst (v := 3) dX10_sheet_2 (by decide) ?_
  refine ez_callS (M1 := mX10_within) (rest := []) dX10_sheet_3 mlX10_158 msX10_within rfl (Nat.le_of_ble_eq_true rfl) rfl (zq_b1 hk0 (zq_b (q_X10_within (d + 59) kn 0 3) (n, sl, kd, I, L, Rf))) eb_rok ?_
  rintro _ _ ⟨rfl, rfl⟩
  show ez_P _ _ _ _ _ _ 6 [(0, .ref 0), (1, .int kn), (2, .int m), (3, .int f0), (4, .int st)] (.int 1 :: []) _ _
  refine ez_if_eq (tgt := 15) dX10_sheet_6 (by decide) (fun c1 => absurd c1 (by decide)) (fun c1 => ?_)
  refine ez_iload_n (i := 2) dX10_sheet_9 rfl rfl ?_
  refine ez_bipush (v := 7) dX10_sheet_10 (by decide) ?_
  refine ez_icmp_le (tgt := 17) dX10_sheet_12 (by decide) (fun c2 => ?_) (fun c2 => absurd hm c2)
  refine ez_iload_n (i := 1) dX10_sheet_17 rfl rfl ?_
  refine ez_iconst (v := 3) dX10_sheet_18 (by decide) ?_
  refine ez_icmp_ne (tgt := 36) dX10_sheet_19 (by decide) (fun c3 => ?_) (fun c3 => absurd h3 c3)
  refine ez_iload_n (i := 2) dX10_sheet_36 rfl rfl ?_
  refine ez_if_ge (tgt := 43) dX10_sheet_37 (by decide) (fun c4 => ?_) (fun c4 => ?_)
  · skip
    refine ez_aload_n (i := 0) dX10_sheet_43 rfl rfl ?_
    refine ez_getR dX10_sheet_44 flX10_33 (hF.lt (by decide)) (hF.kc (by decide) rfl) (hF.pt 21 rfl) ?_
    refine ez_iload_n (i := 1) dX10_sheet_47 rfl rfl ?_
    refine ez_iload_n (i := 2) dX10_sheet_48 rfl rfl ?_
    refine ez_iload_n (i := 3) dX10_sheet_49 rfl rfl ?_
    refine ez_iload (i := 4) dX10_sheet_50 rfl ?_
    refine ez_callV (M1 := mX7_takeSheet) (rest := []) dX10_sheet_52 mlX10_181 mvX7_takeSheet rfl (hF.lt (by decide)) (hF.kc (by decide) rfl) (Nat.le_of_ble_eq_true rfl) rfl (k_sheet (T := T) (I := I) (L := L) (d + 39) hK0 hO hH kn m f0 st (fun e => absurd e h3)) zpK_ok ?_
    rintro _ _ ⟨rfl, I5, rfl, hK6⟩
    show ez_P _ _ _ _ _ _ 55 [(0, .ref 0), (1, .int kn), (2, .int m), (3, .int f0), (4, .int st)] [] (n, sl, kd, I5, L, Rf) _
    have hK6 : zK n kd I L Rf I I5 L Rf (T.w_x (zsr T.x kn m f0 st T.c)) none none false := hK6
    refine ez_aload_n (i := 0) dX10_sheet_55 rfl rfl ?_
    refine ez_getR dX10_sheet_56 flX10_33 (hF.lt (by decide)) (hF.kc (by decide) rfl) (hF.pt 21 rfl) ?_
    refine ez_callV (M1 := mX7_gravityOfAll) (rest := []) dX10_sheet_59 mlX10_185 mvX7_gravityOfAll rfl (hF.lt (by decide)) (hF.kc (by decide) rfl) (Nat.le_of_ble_eq_true rfl) rfl (k_grav (I := I5) (L := L) (d + 59) hK6.C hc7) eb_rok ?_
    rintro _ _ ⟨rfl, rfl⟩
    show ez_P _ _ _ _ _ _ 62 [(0, .ref 0), (1, .int kn), (2, .int m), (3, .int f0), (4, .int st)] (.int (z_sum (zsr T.x kn m f0 st T.c) T.c) :: []) _ _
    refine ez_iret dX10_sheet_62 rfl rfl ?_
    rw [show s_sheet T kn m f0 st = (z_sum (zsr T.x kn m f0 st T.c) T.c, T.w_x (zsr T.x kn m f0 st T.c)) from by unfold s_sheet; rw [if_pos ⟨hk0, hm⟩, if_neg (fun g => absurd g.2 (Int32.not_lt.mpr c4)), if_neg h3]]
    exact hK6.end
  · skip
    refine ez_bipush (v := (-2)) dX10_sheet_40 (by decide) ?_
    refine ez_iret dX10_sheet_42 rfl rfl ?_
    rw [show s_sheet T kn m f0 st = (-2, T) from by unfold s_sheet; rw [if_pos ⟨hk0, hm⟩, if_pos ⟨z_lt3 hk0.2 h3, Int32.not_le.mp c4⟩]]
    exact hK0.end
theorem c_sheet_no {n : Nat} {sl : Nat × Nat} {kd : Nat → Nat × Nat} {I : Nat → Nat → Int32} {L : Nat → Nat → Int64} {Rf : Nat → Nat → Option Nat} (d : Nat) {T : zT} {H : Nat} (hC : zC n kd I L Rf T) (hO : zOk H T) (hH : H ≤ 1000000000) {kn m f0 st : Int32} (hk0 : ¬ (0 ≤ kn ∧ kn ≤ 3)) : zq mX10_sheet (d + 60) [.ref 0, .int kn, .int m, .int f0, .int st] (n, sl, kd, I, L, Rf) (zpC n sl kd I L Rf (some (.int (s_sheet T kn m f0 st).1)) (s_sheet T kn m f0 st).2) := by
  have hF := hC.F; have hc7 := hO.c
  have hK0 : zK n kd I L Rf I I L Rf T none none false := zK.start hC
  have hsp : s_sheet T kn m f0 st = ((-1), T) := (by unfold s_sheet; rw [if_neg (fun g => hk0 g.1)])
  rw [hsp]
  intro f B
  refine ez_meth pn_X.2.2.2.2.2.2.2.2.2.2.1 (Nat.le_of_ble_eq_true rfl) ?_
  show ez_P _ _ _ _ _ _ 0 [(0, .ref 0), (1, .int kn), (2, .int m), (3, .int f0), (4, .int st)] [] (n, sl, kd, I, L, Rf) _
  refine ez_iload_n (i := 1) dX10_sheet_0 rfl rfl ?_
  refine ez_iconst (v := 0) dX10_sheet_1 (by decide) ?_
  refine ez_iconst (v := 3) dX10_sheet_2 (by decide) ?_
  refine ez_callS (M1 := mX10_within) (rest := []) dX10_sheet_3 mlX10_158 msX10_within rfl (Nat.le_of_ble_eq_true rfl) rfl (zq_b0 hk0 (zq_b (q_X10_within (d + 59) kn 0 3) (n, sl, kd, I, L, Rf))) eb_rok ?_
  rintro _ _ ⟨rfl, rfl⟩
  show ez_P _ _ _ _ _ _ 6 [(0, .ref 0), (1, .int kn), (2, .int m), (3, .int f0), (4, .int st)] (.int 0 :: []) _ _
  refine ez_if_eq (tgt := 15) dX10_sheet_6 (by decide) (fun c1 => ?_) (fun c1 => absurd (by decide) c1)
  refine ez_iconst (v := (-1)) dX10_sheet_15 (by decide) ?_
  refine ez_iret dX10_sheet_16 rfl rfl ?_
  exact hK0.end
theorem c_sheet_nx {n : Nat} {sl : Nat × Nat} {kd : Nat → Nat × Nat} {I : Nat → Nat → Int32} {L : Nat → Nat → Int64} {Rf : Nat → Nat → Option Nat} (d : Nat) {T : zT} {H : Nat} (hC : zC n kd I L Rf T) (hO : zOk H T) (hH : H ≤ 1000000000) {kn m f0 st : Int32} (hk0 : 0 ≤ kn ∧ kn ≤ 3) (hm : ¬ m ≤ 7) : zq mX10_sheet (d + 60) [.ref 0, .int kn, .int m, .int f0, .int st] (n, sl, kd, I, L, Rf) (zpC n sl kd I L Rf (some (.int (s_sheet T kn m f0 st).1)) (s_sheet T kn m f0 st).2) := by
  have hF := hC.F; have hc7 := hO.c
  have hK0 : zK n kd I L Rf I I L Rf T none none false := zK.start hC
  have hsp : s_sheet T kn m f0 st = (-1, T) := (by unfold s_sheet; rw [if_neg (fun g => hm g.2)])
  rw [hsp]
  intro f B
  refine ez_meth pn_X.2.2.2.2.2.2.2.2.2.2.1 (Nat.le_of_ble_eq_true rfl) ?_
  show ez_P _ _ _ _ _ _ 0 [(0, .ref 0), (1, .int kn), (2, .int m), (3, .int f0), (4, .int st)] [] (n, sl, kd, I, L, Rf) _
  refine ez_iload_n (i := 1) dX10_sheet_0 rfl rfl ?_
  refine ez_iconst (v := 0) dX10_sheet_1 (by decide) ?_
  refine ez_iconst (v := 3) dX10_sheet_2 (by decide) ?_
  refine ez_callS (M1 := mX10_within) (rest := []) dX10_sheet_3 mlX10_158 msX10_within rfl (Nat.le_of_ble_eq_true rfl) rfl (zq_b1 hk0 (zq_b (q_X10_within (d + 59) kn 0 3) (n, sl, kd, I, L, Rf))) eb_rok ?_
  rintro _ _ ⟨rfl, rfl⟩
  show ez_P _ _ _ _ _ _ 6 [(0, .ref 0), (1, .int kn), (2, .int m), (3, .int f0), (4, .int st)] (.int 1 :: []) _ _
  refine ez_if_eq (tgt := 15) dX10_sheet_6 (by decide) (fun c1 => absurd c1 (by decide)) (fun c1 => ?_)
  refine ez_iload_n (i := 2) dX10_sheet_9 rfl rfl ?_
  refine ez_bipush (v := 7) dX10_sheet_10 (by decide) ?_
  refine ez_icmp_le (tgt := 17) dX10_sheet_12 (by decide) (fun c2 => absurd c2 hm) (fun c2 => ?_)
  refine ez_iconst (v := (-1)) dX10_sheet_15 (by decide) ?_
  refine ez_iret dX10_sheet_16 rfl rfl ?_
  exact hK0.end
theorem c_sheet {n : Nat} {sl : Nat × Nat} {kd : Nat → Nat × Nat} {I : Nat → Nat → Int32} {L : Nat → Nat → Int64} {Rf : Nat → Nat → Option Nat} (d : Nat) {T : zT} {H : Nat} (hC : zC n kd I L Rf T) (hO : zOk H T) (hH : H ≤ 1000000000) (kn m f0 st : Int32) : zq mX10_sheet (d + 60) [.ref 0, .int kn, .int m, .int f0, .int st] (n, sl, kd, I, L, Rf) (zpC n sl kd I L Rf (some (.int (s_sheet T kn m f0 st).1)) (s_sheet T kn m f0 st).2) := by
  by_cases hk0 : 0 ≤ kn ∧ kn ≤ 3
  · by_cases hm : m ≤ 7
    · by_cases h3 : kn = 3
      · subst h3; exact c_sheet_3 d hC hO hH hm
      · exact c_sheet_ok d hC hO hH hk0 hm h3
    · exact c_sheet_nx d hC hO hH hk0 hm
  · exact c_sheet_no d hC hO hH hk0
def zge (x y v : Int32) : Int32 := (if x + y < v then 0 else 9) - x - (if x ≤ y then 0 else 2)
def zib (x y v : Int32) : Prop := ∀ z, z < 10 → zge (nI z) y v ≤ zge x y v
theorem y_X11_gets {n : Nat} {sl : Nat × Nat} {kd : Nat → Nat × Nat} {I : Nat → Nat → Int32} {L : Nat → Nat → Int64} {Rf : Nat → Nat → Option Nat} (d : Nat) (x y v : Int32)  : zq mX11_gets d [.int x, .int y, .int v] (n, sl, kd, I, L, Rf) (eb_r (zge x y v) (n, sl, kd, I, L, Rf)) := by
  intro f B
  refine ez_meth pn_X.2.2.2.2.2.2.2.2.2.2.2 (Nat.le_of_ble_eq_true rfl) ?_
  show ez_P _ _ _ _ _ _ 0 [(0, .int x), (1, .int y), (2, .int v)] [] (n, sl, kd, I, L, Rf) _
  refine ez_iload_n (i := 0) dX11_gets_0 rfl rfl ?_
  refine ez_iload_n (i := 1) dX11_gets_1 rfl rfl ?_
  refine ez_iadd dX11_gets_2 ?_
  refine ez_iload_n (i := 2) dX11_gets_3 rfl rfl ?_
  refine ez_icmp_lt (tgt := 12) dX11_gets_4 (by decide) (fun c1 => ?_) (fun c1 => ?_)
  · skip
    refine ez_iconst (v := 0) dX11_gets_12 (by decide) ?_
    refine ez_iload_n (i := 0) dX11_gets_13 rfl rfl ?_
    refine ez_isub dX11_gets_14 ?_
    refine ez_iload_n (i := 0) dX11_gets_15 rfl rfl ?_
    refine ez_iload_n (i := 1) dX11_gets_16 rfl rfl ?_
    refine ez_icmp_le (tgt := 24) dX11_gets_17 (by decide) (fun c2 => ?_) (fun c2 => ?_)
    · skip
      refine ez_iconst (v := 0) dX11_gets_24 (by decide) ?_
      refine ez_isub dX11_gets_25 ?_
      refine ez_iret dX11_gets_26 rfl rfl ?_
      exact ⟨rfl, by unfold zge; rw [if_pos c1, if_pos c2]⟩
    · skip
      refine ez_iconst (v := 2) dX11_gets_20 (by decide) ?_
      refine ez_goto (tgt := 25) dX11_gets_21 (by decide) ?_
      refine ez_isub dX11_gets_25 ?_
      refine ez_iret dX11_gets_26 rfl rfl ?_
      exact ⟨rfl, by unfold zge; rw [if_pos c1, if_neg c2]⟩
  · skip
    refine ez_bipush (v := 9) dX11_gets_7 (by decide) ?_
    refine ez_goto (tgt := 13) dX11_gets_9 (by decide) ?_
    refine ez_iload_n (i := 0) dX11_gets_13 rfl rfl ?_
    refine ez_isub dX11_gets_14 ?_
    refine ez_iload_n (i := 0) dX11_gets_15 rfl rfl ?_
    refine ez_iload_n (i := 1) dX11_gets_16 rfl rfl ?_
    refine ez_icmp_le (tgt := 24) dX11_gets_17 (by decide) (fun c3 => ?_) (fun c3 => ?_)
    · skip
      refine ez_iconst (v := 0) dX11_gets_24 (by decide) ?_
      refine ez_isub dX11_gets_25 ?_
      refine ez_iret dX11_gets_26 rfl rfl ?_
      exact ⟨rfl, by unfold zge; rw [if_neg c1, if_pos c3]⟩
    · skip
      refine ez_iconst (v := 2) dX11_gets_20 (by decide) ?_
      refine ez_goto (tgt := 25) dX11_gets_21 (by decide) ?_
      refine ez_isub dX11_gets_25 ?_
      refine ez_iret dX11_gets_26 rfl rfl ?_
      exact ⟨rfl, by unfold zge; rw [if_neg c1, if_neg c3]⟩
theorem y_X11_isBest {n : Nat} {sl : Nat × Nat} {kd : Nat → Nat × Nat} {I : Nat → Nat → Int32} {L : Nat → Nat → Int64} {Rf : Nat → Nat → Option Nat} (d : Nat) (x y v : Int32)  : zq mX11_isBest (d + 1) [.int x, .int y, .int v] (n, sl, kd, I, L, Rf) (eb_b (zib x y v) (n, sl, kd, I, L, Rf)) := by
  intro f B
  refine ez_meth pn_X.2.2.2.2.2.2.2.2.2.2.2 (Nat.le_of_ble_eq_true rfl) ?_
  show ez_P _ _ _ _ _ _ 0 [(0, .int x), (1, .int y), (2, .int v)] [] (n, sl, kd, I, L, Rf) _
  refine ez_iconst (v := 0) dX11_isBest_0 (by decide) ?_
  refine ez_istore_n (l' := [(3, .int 0), (0, .int x), (1, .int y), (2, .int v)]) dX11_isBest_1 rfl (by decide) rfl ?_
  refine ez_eq (l2 := [(3, .int (nI 0)), (0, .int x), (1, .int y), (2, .int v)]) (σ2 := (n, sl, kd, I, L, Rf)) rfl rfl rfl rfl ?_
  refine ez_for 10 (fun k (a : Unit) => ([(3, .int (nI k)), (0, .int x), (1, .int y), (2, .int v)], (n, sl, kd, I, L, Rf))) (fun k a => ∀ z, z < k → zge (nI z) y v ≤ zge x y v) ?_ ?_ 10 0 () (by omega) (fun z hz => absurd hz (Nat.not_lt_zero z))
  · rintro k _ hk hin ih
    have hin : ∀ z, z < k → zge (nI z) y v ≤ zge x y v := hin
    show ez_P _ _ _ _ _ _ 2 [(3, .int (nI k)), (0, .int x), (1, .int y), (2, .int v)] [] (n, sl, kd, I, L, Rf) _
    refine ez_iload_n (i := 3) dX11_isBest_2 rfl rfl ?_
    refine ez_bipush (v := 9) dX11_isBest_3 (by decide) ?_
    refine ez_icmp_gt (tgt := 31) dX11_isBest_5 (by decide) (fun c1 => absurd c1 (Int32.not_lt.mpr (nI_le (b := 9) (by omega) (by decide)))) (fun c1 => ?_)
    refine ez_iload_n (i := 3) dX11_isBest_8 rfl rfl ?_
    refine ez_iload_n (i := 1) dX11_isBest_9 rfl rfl ?_
    refine ez_iload_n (i := 2) dX11_isBest_10 rfl rfl ?_
    refine ez_callS (M1 := mX11_gets) (rest := []) dX11_isBest_11 mlX11_367 msX11_gets rfl (Nat.le_of_ble_eq_true rfl) rfl (y_X11_gets (I := I) (L := L) d (nI k) y v) eb_rok ?_
    rintro _ _ ⟨rfl, rfl⟩
    show ez_P _ _ _ _ _ _ 14 [(3, .int (nI k)), (0, .int x), (1, .int y), (2, .int v)] (.int (zge (nI k) y v) :: []) _ _
    refine ez_iload_n (i := 0) dX11_isBest_14 rfl rfl ?_
    refine ez_iload_n (i := 1) dX11_isBest_15 rfl rfl ?_
    refine ez_iload_n (i := 2) dX11_isBest_16 rfl rfl ?_
    refine ez_callS (M1 := mX11_gets) (rest := [.int (zge (nI k) y v)]) dX11_isBest_17 mlX11_367 msX11_gets rfl (Nat.le_of_ble_eq_true rfl) rfl (y_X11_gets (I := I) (L := L) d x y v) eb_rok ?_
    rintro _ _ ⟨rfl, rfl⟩
    show ez_P _ _ _ _ _ _ 20 [(3, .int (nI k)), (0, .int x), (1, .int y), (2, .int v)] (.int (zge x y v) :: [.int (zge (nI k) y v)]) _ _
    refine ez_icmp_le (tgt := 25) dX11_isBest_20 (by decide) (fun c2 => ?_) (fun c2 => ?_)
    · skip
      refine ez_iinc (v := (nI (k + 1))) (l' := [(3, .int ((nI (k + 1)))), (0, .int x), (1, .int y), (2, .int v)]) dX11_isBest_25 rfl (nI_1 _) (by decide) rfl ?_
      refine ez_goto (tgt := 2) dX11_isBest_28 (by decide) ?_
      exact ez_eq (l2 := [(3, .int (nI (k + 1))), (0, .int x), (1, .int y), (2, .int v)]) rfl rfl rfl rfl (ih () (fun z hz => by by_cases e : z = k; rw [e]; exact c2; exact hin z (by omega)))
    · skip
      refine ez_iconst (v := 0) dX11_isBest_23 (by decide) ?_
      refine ez_iret dX11_isBest_24 rfl (by decide) ?_
      exact ⟨rfl, Or.inr ⟨fun g => c2 (g k hk), rfl⟩⟩
  · rintro _ hin
    have hin : ∀ z, z < 10 → zge (nI z) y v ≤ zge x y v := hin
    show ez_P _ _ _ _ _ _ 2 [(3, .int (nI 10)), (0, .int x), (1, .int y), (2, .int v)] [] (n, sl, kd, I, L, Rf) _
    refine ez_iload_n (i := 3) dX11_isBest_2 rfl rfl ?_
    refine ez_bipush (v := 9) dX11_isBest_3 (by decide) ?_
    refine ez_icmp_gt (tgt := 31) dX11_isBest_5 (by decide) (fun c3 => ?_) (fun c3 => absurd (by decide) c3)
    refine ez_iconst (v := 1) dX11_isBest_31 (by decide) ?_
    refine ez_iret dX11_isBest_32 rfl (by decide) ?_
    exact ⟨rfl, Or.inl ⟨hin, rfl⟩⟩
theorem y_X10_gainOf {n : Nat} {sl : Nat × Nat} {kd : Nat → Nat × Nat} {I : Nat → Nat → Int32} {L : Nat → Nat → Int64} {Rf : Nat → Nat → Option Nat} (d : Nat) (x y v : Int32)  : zq mX10_gainOf d [.int x, .int y, .int v] (n, sl, kd, I, L, Rf) (eb_r (zge x y v) (n, sl, kd, I, L, Rf)) := by
  intro f B
  refine ez_meth pn_X.2.2.2.2.2.2.2.2.2.2.1 (Nat.le_of_ble_eq_true rfl) ?_
  show ez_P _ _ _ _ _ _ 0 [(0, .int x), (1, .int y), (2, .int v)] [] (n, sl, kd, I, L, Rf) _
  refine ez_iload_n (i := 0) dX10_gainOf_0 rfl rfl ?_
  refine ez_iload_n (i := 1) dX10_gainOf_1 rfl rfl ?_
  refine ez_iadd dX10_gainOf_2 ?_
  refine ez_iload_n (i := 2) dX10_gainOf_3 rfl rfl ?_
  refine ez_icmp_lt (tgt := 12) dX10_gainOf_4 (by decide) (fun c1 => ?_) (fun c1 => ?_)
  · skip
    refine ez_iconst (v := 0) dX10_gainOf_12 (by decide) ?_
    refine ez_iload_n (i := 0) dX10_gainOf_13 rfl rfl ?_
    refine ez_isub dX10_gainOf_14 ?_
    refine ez_iload_n (i := 0) dX10_gainOf_15 rfl rfl ?_
    refine ez_iload_n (i := 1) dX10_gainOf_16 rfl rfl ?_
    refine ez_icmp_le (tgt := 24) dX10_gainOf_17 (by decide) (fun c2 => ?_) (fun c2 => ?_)
    · skip
      refine ez_iconst (v := 0) dX10_gainOf_24 (by decide) ?_
      refine ez_isub dX10_gainOf_25 ?_
      refine ez_iret dX10_gainOf_26 rfl rfl ?_
      exact ⟨rfl, by unfold zge; rw [if_pos c1, if_pos c2]⟩
    · skip
      refine ez_iconst (v := 2) dX10_gainOf_20 (by decide) ?_
      refine ez_goto (tgt := 25) dX10_gainOf_21 (by decide) ?_
      refine ez_isub dX10_gainOf_25 ?_
      refine ez_iret dX10_gainOf_26 rfl rfl ?_
      exact ⟨rfl, by unfold zge; rw [if_pos c1, if_neg c2]⟩
  · skip
    refine ez_bipush (v := 9) dX10_gainOf_7 (by decide) ?_
    refine ez_goto (tgt := 13) dX10_gainOf_9 (by decide) ?_
    refine ez_iload_n (i := 0) dX10_gainOf_13 rfl rfl ?_
    refine ez_isub dX10_gainOf_14 ?_
    refine ez_iload_n (i := 0) dX10_gainOf_15 rfl rfl ?_
    refine ez_iload_n (i := 1) dX10_gainOf_16 rfl rfl ?_
    refine ez_icmp_le (tgt := 24) dX10_gainOf_17 (by decide) (fun c3 => ?_) (fun c3 => ?_)
    · skip
      refine ez_iconst (v := 0) dX10_gainOf_24 (by decide) ?_
      refine ez_isub dX10_gainOf_25 ?_
      refine ez_iret dX10_gainOf_26 rfl rfl ?_
      exact ⟨rfl, by unfold zge; rw [if_neg c1, if_pos c3]⟩
    · skip
      refine ez_iconst (v := 2) dX10_gainOf_20 (by decide) ?_
      refine ez_goto (tgt := 25) dX10_gainOf_21 (by decide) ?_
      refine ez_isub dX10_gainOf_25 ?_
      refine ez_iret dX10_gainOf_26 rfl rfl ?_
      exact ⟨rfl, by unfold zge; rw [if_neg c1, if_neg c3]⟩
theorem y_X10_isContent {n : Nat} {sl : Nat × Nat} {kd : Nat → Nat × Nat} {I : Nat → Nat → Int32} {L : Nat → Nat → Int64} {Rf : Nat → Nat → Option Nat} (d : Nat) (x y v : Int32)  : zq mX10_isContent (d + 1) [.int x, .int y, .int v] (n, sl, kd, I, L, Rf) (eb_b (zib x y v) (n, sl, kd, I, L, Rf)) := by
  intro f B
  refine ez_meth pn_X.2.2.2.2.2.2.2.2.2.2.1 (Nat.le_of_ble_eq_true rfl) ?_
  show ez_P _ _ _ _ _ _ 0 [(0, .int x), (1, .int y), (2, .int v)] [] (n, sl, kd, I, L, Rf) _
  refine ez_iload_n (i := 0) dX10_isContent_0 rfl rfl ?_
  refine ez_iload_n (i := 1) dX10_isContent_1 rfl rfl ?_
  refine ez_iload_n (i := 2) dX10_isContent_2 rfl rfl ?_
  refine ez_callS (M1 := mX10_gainOf) (rest := []) dX10_isContent_3 mlX10_410 msX10_gainOf rfl (Nat.le_of_ble_eq_true rfl) rfl (y_X10_gainOf (I := I) (L := L) d x y v) eb_rok ?_
  rintro _ _ ⟨rfl, rfl⟩
  show ez_P _ _ _ _ _ _ 6 [(0, .int x), (1, .int y), (2, .int v)] (.int (zge x y v) :: []) _ _
  refine ez_istore_n (l' := [(3, .int (zge x y v)), (0, .int x), (1, .int y), (2, .int v)]) dX10_isContent_6 rfl (by decide) rfl ?_
  refine ez_iconst (v := 0) dX10_isContent_7 (by decide) ?_
  refine ez_istore (l' := [(4, .int 0), (3, .int (zge x y v)), (0, .int x), (1, .int y), (2, .int v)]) dX10_isContent_8 (by decide) rfl ?_
  refine ez_eq (l2 := [(4, .int (nI 0)), (3, .int (zge x y v)), (0, .int x), (1, .int y), (2, .int v)]) (σ2 := (n, sl, kd, I, L, Rf)) rfl rfl rfl rfl ?_
  refine ez_for 10 (fun k (a : Unit) => ([(4, .int (nI k)), (3, .int (zge x y v)), (0, .int x), (1, .int y), (2, .int v)], (n, sl, kd, I, L, Rf))) (fun k a => ∀ z, z < k → zge (nI z) y v ≤ zge x y v) ?_ ?_ 10 0 () (by omega) (fun z hz => absurd hz (Nat.not_lt_zero z))
  · rintro k _ hk hin ih
    have hin : ∀ z, z < k → zge (nI z) y v ≤ zge x y v := hin
    show ez_P _ _ _ _ _ _ 10 [(4, .int (nI k)), (3, .int (zge x y v)), (0, .int x), (1, .int y), (2, .int v)] [] (n, sl, kd, I, L, Rf) _
    refine ez_iload (i := 4) dX10_isContent_10 rfl ?_
    refine ez_bipush (v := 9) dX10_isContent_12 (by decide) ?_
    refine ez_icmp_gt (tgt := 36) dX10_isContent_14 (by decide) (fun c1 => absurd c1 (Int32.not_lt.mpr (nI_le (b := 9) (by omega) (by decide)))) (fun c1 => ?_)
    refine ez_iload (i := 4) dX10_isContent_17 rfl ?_
    refine ez_iload_n (i := 1) dX10_isContent_19 rfl rfl ?_
    refine ez_iload_n (i := 2) dX10_isContent_20 rfl rfl ?_
    refine ez_callS (M1 := mX10_gainOf) (rest := []) dX10_isContent_21 mlX10_410 msX10_gainOf rfl (Nat.le_of_ble_eq_true rfl) rfl (y_X10_gainOf (I := I) (L := L) d (nI k) y v) eb_rok ?_
    rintro _ _ ⟨rfl, rfl⟩
    show ez_P _ _ _ _ _ _ 24 [(4, .int (nI k)), (3, .int (zge x y v)), (0, .int x), (1, .int y), (2, .int v)] (.int (zge (nI k) y v) :: []) _ _
    refine ez_iload_n (i := 3) dX10_isContent_24 rfl rfl ?_
    refine ez_icmp_le (tgt := 30) dX10_isContent_25 (by decide) (fun c2 => ?_) (fun c2 => ?_)
    · skip
      refine ez_iinc (v := (nI (k + 1))) (l' := [(4, .int ((nI (k + 1)))), (3, .int (zge x y v)), (0, .int x), (1, .int y), (2, .int v)]) dX10_isContent_30 rfl (nI_1 _) (by decide) rfl ?_
      refine ez_goto (tgt := 10) dX10_isContent_33 (by decide) ?_
      exact ez_eq (l2 := [(4, .int (nI (k + 1))), (3, .int (zge x y v)), (0, .int x), (1, .int y), (2, .int v)]) rfl rfl rfl rfl (ih () (fun z hz => by by_cases e : z = k; rw [e]; exact c2; exact hin z (by omega)))
    · skip
      refine ez_iconst (v := 0) dX10_isContent_28 (by decide) ?_
      refine ez_iret dX10_isContent_29 rfl (by decide) ?_
      exact ⟨rfl, Or.inr ⟨fun g => c2 (g k hk), rfl⟩⟩
  · rintro _ hin
    have hin : ∀ z, z < 10 → zge (nI z) y v ≤ zge x y v := hin
    show ez_P _ _ _ _ _ _ 10 [(4, .int (nI 10)), (3, .int (zge x y v)), (0, .int x), (1, .int y), (2, .int v)] [] (n, sl, kd, I, L, Rf) _
    refine ez_iload (i := 4) dX10_isContent_10 rfl ?_
    refine ez_bipush (v := 9) dX10_isContent_12 (by decide) ?_
    refine ez_icmp_gt (tgt := 36) dX10_isContent_14 (by decide) (fun c3 => ?_) (fun c3 => absurd (by decide) c3)
    refine ez_iconst (v := 1) dX10_isContent_36 (by decide) ?_
    refine ez_iret dX10_isContent_37 rfl (by decide) ?_
    exact ⟨rfl, Or.inl ⟨hin, rfl⟩⟩
/-- rests: how many pairs, the first -/
noncomputable def zrj (v : Int32) (x : Nat) (a0 : Int32 × List Int32) : Nat → Int32 × List Int32
  | 0 => a0
  | k + 1 => haveI := Classical.propDecidable (zib (nI x) (nI k) v ∧ zib (nI k) (nI x) v); if zib (nI x) (nI k) v ∧ zib (nI k) (nI x) v then ((zrj v x a0 k).1 + 1, if (zrj v x a0 k).1 = 0 then [nI x, nI k] else (zrj v x a0 k).2) else zrj v x a0 k
noncomputable def zri (v : Int32) : Nat → Int32 × List Int32
  | 0 => (0, [])
  | k + 1 => zrj v k (zri v k) 10
noncomputable def s_rests (T : zT) (v : Int32) : Int32 × zT := if 0 ≤ v ∧ v ≤ 18 then ((zri v 10).1, T.w_rw ((zri v 10).2.map Int32.toInt64)) else (-1, T)
theorem zrj_y {v : Int32} {x k : Nat} {a0 : Int32 × List Int32} (h1 : zib (nI x) (nI k) v) (h2 : zib (nI k) (nI x) v) : zrj v x a0 (k + 1) = ((zrj v x a0 k).1 + 1, if (zrj v x a0 k).1 = 0 then [nI x, nI k] else (zrj v x a0 k).2) := by rw [zrj]; exact if_pos ⟨h1, h2⟩
theorem zrj_n {v : Int32} {x k : Nat} {a0 : Int32 × List Int32} (h : ¬ (zib (nI x) (nI k) v ∧ zib (nI k) (nI x) v)) : zrj v x a0 (k + 1) = zrj v x a0 k := by rw [zrj]; exact if_neg h
theorem y_X11_rests_ok {n : Nat} {sl : Nat × Nat} {kd : Nat → Nat × Nat} {I : Nat → Nat → Int32} {L : Nat → Nat → Int64} {Rf : Nat → Nat → Option Nat} (d : Nat) {T : zT} {H : Nat} (hM : zM n kd I L Rf T) (hO : zOk H T) (hH : H ≤ 1000000000) {v : Int32} (hn : 0 ≤ v ∧ v ≤ 18)  : zq mX11_rests (d + 400) [.ref 112, .int v] (n, sl, kd, I, L, Rf) (zpM n sl kd I L Rf (some (.int (s_rests T v).1)) (s_rests T v).2) := by
  have hF := hM.F; have hc7 := hO.c
  intro f B
  refine ez_meth pn_X.2.2.2.2.2.2.2.2.2.2.2 (Nat.le_of_ble_eq_true rfl) ?_
  show ez_P _ _ _ _ _ _ 0 [(0, .ref 112), (1, .int v)] [] (n, sl, kd, I, L, Rf) _
  refine ez_aload_n (i := 0) dX11_rests_0 rfl rfl ?_
  refine ez_iconst (v := 0) dX11_rests_1 (by decide) ?_
  refine ez_pI dX11_rests_2 plX11_89 (hF.lt (by decide)) (hF.lx (by decide)) (hF.kc (by decide) rfl) rfl rfl ?_
  refine ez_nmI (fun I1 hI1 => ?_)
  have hQ2 : zQ n kd I L Rf I I1 L T (I 124) (I 112 25) := by rw [hI1]; exact zQ.start hM
  refine ez_iload_n (i := 1) dX11_rests_5 rfl rfl ?_
  refine ez_iconst (v := 0) dX11_rests_6 (by decide) ?_
  refine ez_bipush (v := 18) dX11_rests_7 (by decide) ?_
  refine ez_callS (M1 := mX11_in) (rest := []) dX11_rests_9 mlX11_98 msX11_in rfl (Nat.le_of_ble_eq_true rfl) rfl (zq_b1 hn (zq_b (q_X11_in (d + 399) v 0 18) (n, sl, kd, I1, L, Rf))) eb_rok ?_
  rintro _ _ ⟨rfl, rfl⟩
  show ez_P _ _ _ _ _ _ 12 [(0, .ref 112), (1, .int v)] (.int 1 :: []) _ _
  refine ez_if_ne (tgt := 17) dX11_rests_12 (by decide) (fun c3 => ?_) (fun c3 => absurd (by decide) c3)
  refine ez_iconst (v := 0) dX11_rests_17 (by decide) ?_
  refine ez_istore_n (l' := [(2, .int 0), (0, .ref 112), (1, .int v)]) dX11_rests_18 rfl (by decide) rfl ?_
  refine ez_aload_n (i := 0) dX11_rests_19 rfl rfl ?_
  refine ez_iconst (v := 0) dX11_rests_20 (by decide) ?_
  refine ez_pI dX11_rests_21 plX11_92 (hF.lt (by decide)) (hF.lx (by decide)) (hF.kc (by decide) rfl) rfl rfl ?_
  refine ez_nmI (fun I4 hI4 => ?_)
  have hQ5 : zQ n kd I L Rf I I4 L (T.w_rw []) (I 124) (I 112 25) := by rw [hI4]; exact hQ2.row0
  refine ez_iconst (v := 0) dX11_rests_24 (by decide) ?_
  refine ez_istore_n (l' := [(3, .int 0), (2, .int 0), (0, .ref 112), (1, .int v)]) dX11_rests_25 rfl (by decide) rfl ?_
  have hQv : zQ n kd I L Rf I I4 L (T.w_rw (List.map Int32.toInt64 ([] : List Int32))) (I 124) (I 112 25) := hQ5
  refine ez_eq (l2 := [(3, .int (nI 0)), (2, .int 0), (0, .ref 112), (1, .int v)]) (σ2 := (n, sl, kd, I4, L, Rf)) rfl rfl rfl rfl ?_
  refine ez_for 10 (fun k (a : (Nat → Nat → Int32) × (Nat → Nat → Int64) × Int32 × Int32 × (List Int32)) => ([(3, .int (nI k)), (2, .int a.2.2.2.1), (0, .ref 112), (1, .int v)], (n, sl, kd, a.1, a.2.1, Rf))) (fun k a => zQ n kd I L Rf I a.1 a.2.1 (T.w_rw (List.map Int32.toInt64 a.2.2.2.2)) (I 124) a.2.2.1 ∧ (a.2.2.2.1, a.2.2.2.2) = zri v k ∧ ∃ m, m ≤ 10 * k ∧ a.2.2.2.1 = nI m ∧ (m = 0 → a.2.2.2.2 = [])) ?_ ?_ 10 0 (I4, L, I 112 25, 0, []) (by omega) ⟨hQv, rfl, ⟨0, by omega, rfl, fun _ => rfl⟩⟩
  · rintro k ⟨Ia, La, oa, nn, ro⟩ hk ⟨hQ0, hac, hex⟩ ih
    have hQ0 : zQ n kd I L Rf I Ia La (T.w_rw (List.map Int32.toInt64 ro)) (I 124) oa := hQ0
    have hac : (nn, ro) = zri v k := hac
    have hex : ∃ m, m ≤ 10 * k ∧ nn = nI m ∧ (m = 0 → ro = []) := hex
    show ez_P _ _ _ _ _ _ 26 [(3, .int (nI k)), (2, .int nn), (0, .ref 112), (1, .int v)] [] (n, sl, kd, Ia, La, Rf) _
    refine ez_iload_n (i := 3) dX11_rests_26 rfl rfl ?_
    refine ez_bipush (v := 9) dX11_rests_27 (by decide) ?_
    refine ez_icmp_gt (tgt := 97) dX11_rests_29 (by decide) (fun c6 => absurd c6 (Int32.not_lt.mpr (nI_le (b := 9) (by omega) (by decide)))) (fun c6 => ?_)
    refine ez_iconst (v := 0) dX11_rests_32 (by decide) ?_
    refine ez_istore (l' := [(4, .int 0), (3, .int (nI k)), (2, .int nn), (0, .ref 112), (1, .int v)]) dX11_rests_33 (by decide) rfl ?_
    refine ez_sub (l' := [(4, .int 0), (2, .int nn), (3, .int (nI k)), (0, .ref 112), (1, .int v)]) [0, 2, 1, 3, 4] rfl ?_
    refine ez_eq (l2 := [(4, .int (nI 0)), (2, .int nn), (3, .int (nI k)), (0, .ref 112), (1, .int v)]) (σ2 := (n, sl, kd, Ia, La, Rf)) rfl rfl rfl rfl ?_
    refine ez_for 10 (fun j (a : (Nat → Nat → Int32) × (Nat → Nat → Int64) × Int32 × Int32 × (List Int32)) => ([(4, .int (nI j)), (2, .int a.2.2.2.1), (3, .int (nI k)), (0, .ref 112), (1, .int v)], (n, sl, kd, a.1, a.2.1, Rf))) (fun j a => zQ n kd I L Rf I a.1 a.2.1 (T.w_rw (List.map Int32.toInt64 a.2.2.2.2)) (I 124) a.2.2.1 ∧ (a.2.2.2.1, a.2.2.2.2) = zrj v k (nn, ro) j ∧ ∃ m, m ≤ 10 * k + j ∧ a.2.2.2.1 = nI m ∧ (m = 0 → a.2.2.2.2 = [])) ?_ ?_ 10 0 (Ia, La, oa, nn, ro) (by omega) ⟨hQ0, rfl, hex⟩
    · rintro j ⟨Ia2, La2, oa2, n2, ro2⟩ hk2 ⟨hQ02, hac2, hex2⟩ ih2
      have hQ02 : zQ n kd I L Rf I Ia2 La2 (T.w_rw (List.map Int32.toInt64 ro2)) (I 124) oa2 := hQ02
      have hac2 : (n2, ro2) = zrj v k (nn, ro) j := hac2
      have hex2 : ∃ m, m ≤ 10 * k + j ∧ n2 = nI m ∧ (m = 0 → ro2 = []) := hex2
      show ez_P _ _ _ _ _ _ 35 [(4, .int (nI j)), (2, .int n2), (3, .int (nI k)), (0, .ref 112), (1, .int v)] [] (n, sl, kd, Ia2, La2, Rf) _
      refine ez_iload (i := 4) dX11_rests_35 rfl ?_
      refine ez_bipush (v := 9) dX11_rests_37 (by decide) ?_
      refine ez_icmp_gt (tgt := 91) dX11_rests_39 (by decide) (fun c7 => absurd c7 (Int32.not_lt.mpr (nI_le (b := 9) (by omega) (by decide)))) (fun c7 => ?_)
      refine ez_iload_n (i := 3) dX11_rests_42 rfl rfl ?_
      refine ez_iload (i := 4) dX11_rests_43 rfl ?_
      refine ez_iload_n (i := 1) dX11_rests_45 rfl rfl ?_
      refine ez_callS (M1 := mX11_isBest) (rest := []) dX11_rests_46 mlX11_370 msX11_isBest rfl (Nat.le_of_ble_eq_true rfl) rfl (y_X11_isBest (I := Ia2) (L := La2) (d + 398) (nI k) (nI j) v) eb_bok ?_
      rintro _ _ ⟨rfl, ⟨b8, rfl⟩ | ⟨b8, rfl⟩⟩
      · show ez_P _ _ _ _ _ _ 49 [(4, .int (nI j)), (2, .int n2), (3, .int (nI k)), (0, .ref 112), (1, .int v)] (.int 1 :: []) _ _
        refine ez_if_eq (tgt := 85) dX11_rests_49 (by decide) (fun c9 => absurd c9 (by decide)) (fun c9 => ?_)
        refine ez_iload (i := 4) dX11_rests_52 rfl ?_
        refine ez_iload_n (i := 3) dX11_rests_54 rfl rfl ?_
        refine ez_iload_n (i := 1) dX11_rests_55 rfl rfl ?_
        refine ez_callS (M1 := mX11_isBest) (rest := []) dX11_rests_56 mlX11_370 msX11_isBest rfl (Nat.le_of_ble_eq_true rfl) rfl (y_X11_isBest (I := Ia2) (L := La2) (d + 398) (nI j) (nI k) v) eb_bok ?_
        rintro _ _ ⟨rfl, ⟨b10, rfl⟩ | ⟨b10, rfl⟩⟩
        · show ez_P _ _ _ _ _ _ 59 [(4, .int (nI j)), (2, .int n2), (3, .int (nI k)), (0, .ref 112), (1, .int v)] (.int 1 :: []) _ _
          refine ez_if_ne (tgt := 65) dX11_rests_59 (by decide) (fun c11 => ?_) (fun c11 => absurd (by decide) c11)
          refine ez_iload_n (i := 2) dX11_rests_65 rfl rfl ?_
          refine ez_if_ne (tgt := 82) dX11_rests_66 (by decide) (fun c12 => ?_) (fun c12 => ?_)
          · skip
            refine ez_iinc (v := (n2 + 1)) (l' := [(2, .int ((n2 + 1))), (4, .int (nI j)), (3, .int (nI k)), (0, .ref 112), (1, .int v)]) dX11_rests_82 rfl rfl (by decide) rfl ?_
            refine ez_iinc (v := (nI (j + 1))) (l' := [(4, .int ((nI (j + 1)))), (2, .int ((n2 + 1))), (3, .int (nI k)), (0, .ref 112), (1, .int v)]) dX11_rests_85 rfl (nI_1 _) (by decide) rfl ?_
            refine ez_goto (tgt := 35) dX11_rests_88 (by decide) ?_
            exact ez_eq (l2 := [(4, .int (nI (j + 1))), (2, .int ((n2 + 1))), (3, .int (nI k)), (0, .ref 112), (1, .int v)]) rfl rfl rfl rfl (ih2 (Ia2, La2, oa2, (n2 + 1), ro2) ⟨hQ02, (by rw [zrj_y b8 b10, ← hac2]; simp only [if_neg c12]), (by obtain ⟨m, h1, h2, h3⟩ := hex2; exact ⟨m + 1, by omega, by show n2 + 1 = _; rw [h2, nI_1], fun e => absurd e (by omega)⟩)⟩)
          · skip
            obtain rfl : ro2 = [] := by obtain ⟨m, h1, h2, h3⟩ := hex2; exact h3 (nI_inj0 (h2.symm.trans (Classical.not_not.mp c12)) (by omega))
            have hQx : zQ n kd I L Rf I Ia2 La2 (T.w_rw []) (I 124) oa2 := hQ02
            refine ez_aload_n (i := 0) dX11_rests_69 rfl rfl ?_
            refine ez_iload_n (i := 3) dX11_rests_70 rfl rfl ?_
            refine ez_i2l dX11_rests_71 rfl ?_
            refine ez_callV (M1 := mX11_tell) (rest := []) dX11_rests_72 mlX11_252 mvX11_tell rfl (hF.lt (by decide)) (hF.kc (by decide) rfl) (Nat.le_of_ble_eq_true rfl) rfl (y_X11_tell (I := Ia2) (L := La2) (d + 399) hF (k := 0) hQx.M.rw.1 (by decide) ((nI k).toInt64)) (eb_vok rfl) ?_
            rintro _ _ ⟨rfl, rfl⟩
            refine ez_nmI (fun I13 hI13 => ?_)
            refine ez_nmL (fun L14 hL14 => ?_)
            show ez_P _ _ _ _ _ _ 75 [(4, .int (nI j)), (2, .int n2), (3, .int (nI k)), (0, .ref 112), (1, .int v)] [] (n, sl, kd, I13, L14, Rf) _
            have hQ15 : zQ n kd I L Rf I I13 L14 (T.w_rw [(nI k).toInt64]) (I 124) oa2 := by rw [hI13, hL14]; exact hQx.tell ((nI k).toInt64)
            refine ez_aload_n (i := 0) dX11_rests_75 rfl rfl ?_
            refine ez_iload (i := 4) dX11_rests_76 rfl ?_
            refine ez_i2l dX11_rests_78 rfl ?_
            refine ez_callV (M1 := mX11_tell) (rest := []) dX11_rests_79 mlX11_252 mvX11_tell rfl (hF.lt (by decide)) (hF.kc (by decide) rfl) (Nat.le_of_ble_eq_true rfl) rfl (y_X11_tell (I := I13) (L := L14) (d + 399) hF (k := 1) hQ15.M.rw.1 (by decide) ((nI j).toInt64)) (eb_vok rfl) ?_
            rintro _ _ ⟨rfl, rfl⟩
            refine ez_nmI (fun I16 hI16 => ?_)
            refine ez_nmL (fun L17 hL17 => ?_)
            show ez_P _ _ _ _ _ _ 82 [(4, .int (nI j)), (2, .int n2), (3, .int (nI k)), (0, .ref 112), (1, .int v)] [] (n, sl, kd, I16, L17, Rf) _
            have hQ18 : zQ n kd I L Rf I I16 L17 (T.w_rw [(nI k).toInt64, (nI j).toInt64]) (I 124) oa2 := by rw [hI16, hL17]; exact hQ15.tell ((nI j).toInt64)
            refine ez_iinc (v := (n2 + 1)) (l' := [(2, .int ((n2 + 1))), (4, .int (nI j)), (3, .int (nI k)), (0, .ref 112), (1, .int v)]) dX11_rests_82 rfl rfl (by decide) rfl ?_
            refine ez_iinc (v := (nI (j + 1))) (l' := [(4, .int ((nI (j + 1)))), (2, .int ((n2 + 1))), (3, .int (nI k)), (0, .ref 112), (1, .int v)]) dX11_rests_85 rfl (nI_1 _) (by decide) rfl ?_
            refine ez_goto (tgt := 35) dX11_rests_88 (by decide) ?_
            exact ez_eq (l2 := [(4, .int (nI (j + 1))), (2, .int ((n2 + 1))), (3, .int (nI k)), (0, .ref 112), (1, .int v)]) rfl rfl rfl rfl (ih2 (I16, L17, oa2, (n2 + 1), [nI k, nI j]) ⟨hQ18, (by rw [zrj_y b8 b10, ← hac2]; simp only [if_pos (Classical.not_not.mp c12)]), (by obtain ⟨m, h1, h2, h3⟩ := hex2; exact ⟨m + 1, by omega, by show n2 + 1 = _; rw [h2, nI_1], fun e => absurd e (by omega)⟩)⟩)
        · show ez_P _ _ _ _ _ _ 59 [(4, .int (nI j)), (2, .int n2), (3, .int (nI k)), (0, .ref 112), (1, .int v)] (.int 0 :: []) _ _
          refine ez_if_ne (tgt := 65) dX11_rests_59 (by decide) (fun c19 => absurd c19 (by decide)) (fun c19 => ?_)
          refine ez_goto (tgt := 85) dX11_rests_62 (by decide) ?_
          refine ez_iinc (v := (nI (j + 1))) (l' := [(4, .int ((nI (j + 1)))), (2, .int n2), (3, .int (nI k)), (0, .ref 112), (1, .int v)]) dX11_rests_85 rfl (nI_1 _) (by decide) rfl ?_
          refine ez_goto (tgt := 35) dX11_rests_88 (by decide) ?_
          exact ez_eq (l2 := [(4, .int (nI (j + 1))), (2, .int n2), (3, .int (nI k)), (0, .ref 112), (1, .int v)]) rfl rfl rfl rfl (ih2 (Ia2, La2, oa2, n2, ro2) ⟨hQ02, (by rw [zrj_n (fun g => b10 g.2)]; exact hac2), (by obtain ⟨m, h1, h2, h3⟩ := hex2; exact ⟨m, by omega, h2, h3⟩)⟩)
      · show ez_P _ _ _ _ _ _ 49 [(4, .int (nI j)), (2, .int n2), (3, .int (nI k)), (0, .ref 112), (1, .int v)] (.int 0 :: []) _ _
        refine ez_if_eq (tgt := 85) dX11_rests_49 (by decide) (fun c20 => ?_) (fun c20 => absurd (by decide) c20)
        refine ez_iinc (v := (nI (j + 1))) (l' := [(4, .int ((nI (j + 1)))), (2, .int n2), (3, .int (nI k)), (0, .ref 112), (1, .int v)]) dX11_rests_85 rfl (nI_1 _) (by decide) rfl ?_
        refine ez_goto (tgt := 35) dX11_rests_88 (by decide) ?_
        exact ez_eq (l2 := [(4, .int (nI (j + 1))), (2, .int n2), (3, .int (nI k)), (0, .ref 112), (1, .int v)]) rfl rfl rfl rfl (ih2 (Ia2, La2, oa2, n2, ro2) ⟨hQ02, (by rw [zrj_n (fun g => b8 g.1)]; exact hac2), (by obtain ⟨m, h1, h2, h3⟩ := hex2; exact ⟨m, by omega, h2, h3⟩)⟩)
    · rintro ⟨Ia2, La2, oa2, n2, ro2⟩ ⟨hQ02, hac2, hex2⟩
      have hQ02 : zQ n kd I L Rf I Ia2 La2 (T.w_rw (List.map Int32.toInt64 ro2)) (I 124) oa2 := hQ02
      have hac2 : (n2, ro2) = zrj v k (nn, ro) 10 := hac2
      have hex2 : ∃ m, m ≤ 10 * k + 10 ∧ n2 = nI m ∧ (m = 0 → ro2 = []) := hex2
      show ez_P _ _ _ _ _ _ 35 [(4, .int (nI 10)), (2, .int n2), (3, .int (nI k)), (0, .ref 112), (1, .int v)] [] (n, sl, kd, Ia2, La2, Rf) _
      refine ez_iload (i := 4) dX11_rests_35 rfl ?_
      refine ez_bipush (v := 9) dX11_rests_37 (by decide) ?_
      refine ez_icmp_gt (tgt := 91) dX11_rests_39 (by decide) (fun c21 => ?_) (fun c21 => absurd (by decide) c21)
      refine ez_iinc (v := (nI (k + 1))) (l' := [(3, .int ((nI (k + 1)))), (4, .int (nI 10)), (2, .int n2), (0, .ref 112), (1, .int v)]) dX11_rests_91 rfl (nI_1 _) (by decide) rfl ?_
      refine ez_goto (tgt := 26) dX11_rests_94 (by decide) ?_
      refine ez_sub (l' := [(3, .int ((nI (k + 1)))), (2, .int n2), (0, .ref 112), (1, .int v)]) [0, 2, 3, 4] rfl ?_
      exact ez_eq (l2 := [(3, .int (nI (k + 1))), (2, .int n2), (0, .ref 112), (1, .int v)]) rfl rfl rfl rfl (ih (Ia2, La2, oa2, n2, ro2) ⟨hQ02, (by rw [zri, ← hac]; exact hac2), (by obtain ⟨m, h1, h2, h3⟩ := hex2; exact ⟨m, by omega, h2, h3⟩)⟩)
  · rintro ⟨Ia, La, oa, nn, ro⟩ ⟨hQ0, hac, hex⟩
    have hQ0 : zQ n kd I L Rf I Ia La (T.w_rw (List.map Int32.toInt64 ro)) (I 124) oa := hQ0
    have hac : (nn, ro) = zri v 10 := hac
    have hex : ∃ m, m ≤ 10 * 10 ∧ nn = nI m ∧ (m = 0 → ro = []) := hex
    show ez_P _ _ _ _ _ _ 26 [(3, .int (nI 10)), (2, .int nn), (0, .ref 112), (1, .int v)] [] (n, sl, kd, Ia, La, Rf) _
    refine ez_iload_n (i := 3) dX11_rests_26 rfl rfl ?_
    refine ez_bipush (v := 9) dX11_rests_27 (by decide) ?_
    refine ez_icmp_gt (tgt := 97) dX11_rests_29 (by decide) (fun c22 => ?_) (fun c22 => absurd (by decide) c22)
    refine ez_iload_n (i := 2) dX11_rests_97 rfl rfl ?_
    refine ez_iret dX11_rests_98 rfl rfl ?_
    rw [show s_rests T v = (nn, T.w_rw (ro.map Int32.toInt64)) from by unfold s_rests; rw [if_pos hn, ← hac]]
    exact hQ0.end
theorem y_X11_rests_no {n : Nat} {sl : Nat × Nat} {kd : Nat → Nat × Nat} {I : Nat → Nat → Int32} {L : Nat → Nat → Int64} {Rf : Nat → Nat → Option Nat} (d : Nat) {T : zT} {H : Nat} (hM : zM n kd I L Rf T) (hO : zOk H T) (hH : H ≤ 1000000000) {v : Int32} (hn : ¬ (0 ≤ v ∧ v ≤ 18))  : zq mX11_rests (d + 400) [.ref 112, .int v] (n, sl, kd, I, L, Rf) (zpM n sl kd I L Rf (some (.int (s_rests T v).1)) (s_rests T v).2) := by
  have hF := hM.F; have hc7 := hO.c
  have hsp : s_rests T v = ((-1), T) := (by unfold s_rests; rw [if_neg hn])
  rw [hsp]
  intro f B
  refine ez_meth pn_X.2.2.2.2.2.2.2.2.2.2.2 (Nat.le_of_ble_eq_true rfl) ?_
  show ez_P _ _ _ _ _ _ 0 [(0, .ref 112), (1, .int v)] [] (n, sl, kd, I, L, Rf) _
  refine ez_aload_n (i := 0) dX11_rests_0 rfl rfl ?_
  refine ez_iconst (v := 0) dX11_rests_1 (by decide) ?_
  refine ez_pI dX11_rests_2 plX11_89 (hF.lt (by decide)) (hF.lx (by decide)) (hF.kc (by decide) rfl) rfl rfl ?_
  refine ez_nmI (fun I1 hI1 => ?_)
  have hQ2 : zQ n kd I L Rf I I1 L T (I 124) (I 112 25) := by rw [hI1]; exact zQ.start hM
  refine ez_iload_n (i := 1) dX11_rests_5 rfl rfl ?_
  refine ez_iconst (v := 0) dX11_rests_6 (by decide) ?_
  refine ez_bipush (v := 18) dX11_rests_7 (by decide) ?_
  refine ez_callS (M1 := mX11_in) (rest := []) dX11_rests_9 mlX11_98 msX11_in rfl (Nat.le_of_ble_eq_true rfl) rfl (zq_b0 hn (zq_b (q_X11_in (d + 399) v 0 18) (n, sl, kd, I1, L, Rf))) eb_rok ?_
  rintro _ _ ⟨rfl, rfl⟩
  show ez_P _ _ _ _ _ _ 12 [(0, .ref 112), (1, .int v)] (.int 0 :: []) _ _
  refine ez_if_ne (tgt := 17) dX11_rests_12 (by decide) (fun c3 => absurd c3 (by decide)) (fun c3 => ?_)
  refine ez_iconst (v := (-1)) dX11_rests_15 (by decide) ?_
  refine ez_iret dX11_rests_16 rfl rfl ?_
  exact hQ2.end
theorem y_X11_rests {n : Nat} {sl : Nat × Nat} {kd : Nat → Nat × Nat} {I : Nat → Nat → Int32} {L : Nat → Nat → Int64} {Rf : Nat → Nat → Option Nat} (d : Nat) {T : zT} {H : Nat} (hM : zM n kd I L Rf T) (hO : zOk H T) (hH : H ≤ 1000000000) (v : Int32) : zq mX11_rests (d + 400) [.ref 112, .int v] (n, sl, kd, I, L, Rf) (zpM n sl kd I L Rf (some (.int (s_rests T v).1)) (s_rests T v).2) := by
  by_cases hn : 0 ≤ v ∧ v ≤ 18
  · exact y_X11_rests_ok d hM hO hH hn
  · exact y_X11_rests_no d hM hO hH hn
theorem c_rests_ok {n : Nat} {sl : Nat × Nat} {kd : Nat → Nat × Nat} {I : Nat → Nat → Int32} {L : Nat → Nat → Int64} {Rf : Nat → Nat → Option Nat} (d : Nat) {T : zT} {H : Nat} (hC : zC n kd I L Rf T) (hO : zOk H T) (hH : H ≤ 1000000000) {v : Int32} (hn : 0 ≤ v ∧ v ≤ 18) : zq mX10_rests (d + 60) [.ref 0, .int v] (n, sl, kd, I, L, Rf) (zpC n sl kd I L Rf (some (.int (s_rests T v).1)) (s_rests T v).2) := by
  have hF := hC.F; have hc7 := hO.c
  have hK0 : zK n kd I L Rf I I L Rf T none none false := zK.start hC
  intro f B
  refine ez_meth pn_X.2.2.2.2.2.2.2.2.2.2.1 (Nat.le_of_ble_eq_true rfl) ?_
  show ez_P _ _ _ _ _ _ 0 [(0, .ref 0), (1, .int v)] [] (n, sl, kd, I, L, Rf) _
  refine ez_iload_n (i := 1) dX10_rests_0 rfl rfl ?_
  refine ez_iconst (v := 0) dX10_rests_1 (by decide) ?_
  refine ez_bipush (v := 18) dX10_rests_2 (by decide) ?_
  refine ez_callS (M1 := mX10_within) (rest := []) dX10_rests_4 mlX10_158 msX10_within rfl (Nat.le_of_ble_eq_true rfl) rfl (zq_b1 hn (zq_b (q_X10_within (d + 59) v 0 18) (n, sl, kd, I, L, Rf))) eb_rok ?_
  rintro _ _ ⟨rfl, rfl⟩
  show ez_P _ _ _ _ _ _ 7 [(0, .ref 0), (1, .int v)] (.int 1 :: []) _ _
  refine ez_if_ne (tgt := 12) dX10_rests_7 (by decide) (fun c1 => ?_) (fun c1 => absurd (by decide) c1)
  refine ez_aload_n (i := 0) dX10_rests_12 rfl rfl ?_
  refine ez_getR dX10_rests_13 flX10_19 (hF.lt (by decide)) (hF.kc (by decide) rfl) (hF.pt 3 rfl) ?_
  refine ez_callV (M1 := mX4_empty) (rest := []) dX10_rests_16 mlX10_297 mvX4_empty rfl (hF.lt (by decide)) (hF.kc (by decide) rfl) (Nat.le_of_ble_eq_true rfl) rfl (y_X4_empty (I := I) (L := L) (d + 59) hF) z_tok ?_
  rintro _ _ ⟨rfl, I2, L3, rfl, hr4, ho5⟩
  show ez_P _ _ _ _ _ _ 19 [(0, .ref 0), (1, .int v)] [] (n, sl, kd, I2, L3, Rf) _
  have hK6 : zK n kd I L Rf I I2 L3 Rf (T.w_rw []) none none false := by exact hK0.tell hr4 ho5
  refine ez_iconst (v := 0) dX10_rests_19 (by decide) ?_
  refine ez_istore_n (l' := [(2, .int 0), (0, .ref 0), (1, .int v)]) dX10_rests_20 rfl (by decide) rfl ?_
  refine ez_iconst (v := 0) dX10_rests_21 (by decide) ?_
  refine ez_istore_n (l' := [(3, .int 0), (2, .int 0), (0, .ref 0), (1, .int v)]) dX10_rests_22 rfl (by decide) rfl ?_
  have hKv : zK n kd I L Rf I I2 L3 Rf (T.w_rw (List.map Int32.toInt64 ([] : List Int32))) none none false := hK6
  refine ez_eq (l2 := [(3, .int (nI 0)), (2, .int 0), (0, .ref 0), (1, .int v)]) (σ2 := (n, sl, kd, I2, L3, Rf)) rfl rfl rfl rfl ?_
  refine ez_for 10 (fun k (a : (Nat → Nat → Int32) × (Nat → Nat → Int64) × Int32 × (List Int32)) => ([(3, .int (nI k)), (2, .int a.2.2.1), (0, .ref 0), (1, .int v)], (n, sl, kd, a.1, a.2.1, Rf))) (fun k a => zK n kd I L Rf I a.1 a.2.1 Rf (T.w_rw (List.map Int32.toInt64 a.2.2.2)) none none false ∧ (a.2.2.1, a.2.2.2) = zri v k) ?_ ?_ 10 0 (I2, L3, 0, []) (by omega) ⟨hKv, rfl⟩
  · rintro k ⟨Ia, La, nn, ro⟩ hk ⟨hKl, hac⟩ ih
    have hKl : zK n kd I L Rf I Ia La Rf (T.w_rw (List.map Int32.toInt64 ro)) none none false := hKl
    have hac : (nn, ro) = zri v k := hac
    show ez_P _ _ _ _ _ _ 23 [(3, .int (nI k)), (2, .int nn), (0, .ref 0), (1, .int v)] [] (n, sl, kd, Ia, La, Rf) _
    refine ez_iload_n (i := 3) dX10_rests_23 rfl rfl ?_
    refine ez_bipush (v := 9) dX10_rests_24 (by decide) ?_
    refine ez_icmp_gt (tgt := 88) dX10_rests_26 (by decide) (fun c7 => absurd c7 (Int32.not_lt.mpr (nI_le (b := 9) (by omega) (by decide)))) (fun c7 => ?_)
    refine ez_iconst (v := 0) dX10_rests_29 (by decide) ?_
    refine ez_istore (l' := [(4, .int 0), (3, .int (nI k)), (2, .int nn), (0, .ref 0), (1, .int v)]) dX10_rests_30 (by decide) rfl ?_
    refine ez_sub (l' := [(4, .int 0), (2, .int nn), (3, .int (nI k)), (0, .ref 0), (1, .int v)]) [0, 2, 1, 3, 4] rfl ?_
    refine ez_eq (l2 := [(4, .int (nI 0)), (2, .int nn), (3, .int (nI k)), (0, .ref 0), (1, .int v)]) (σ2 := (n, sl, kd, Ia, La, Rf)) rfl rfl rfl rfl ?_
    refine ez_for 10 (fun j (a : (Nat → Nat → Int32) × (Nat → Nat → Int64) × Int32 × (List Int32)) => ([(4, .int (nI j)), (2, .int a.2.2.1), (3, .int (nI k)), (0, .ref 0), (1, .int v)], (n, sl, kd, a.1, a.2.1, Rf))) (fun j a => zK n kd I L Rf I a.1 a.2.1 Rf (T.w_rw (List.map Int32.toInt64 a.2.2.2)) none none false ∧ (a.2.2.1, a.2.2.2) = zrj v k (nn, ro) j) ?_ ?_ 10 0 (Ia, La, nn, ro) (by omega) ⟨hKl, rfl⟩
    · rintro j ⟨Ia2, La2, n2, ro2⟩ hk2 ⟨hKl2, hac2⟩ ih2
      have hKl2 : zK n kd I L Rf I Ia2 La2 Rf (T.w_rw (List.map Int32.toInt64 ro2)) none none false := hKl2
      have hac2 : (n2, ro2) = zrj v k (nn, ro) j := hac2
      show ez_P _ _ _ _ _ _ 32 [(4, .int (nI j)), (2, .int n2), (3, .int (nI k)), (0, .ref 0), (1, .int v)] [] (n, sl, kd, Ia2, La2, Rf) _
      refine ez_iload (i := 4) dX10_rests_32 rfl ?_
      refine ez_bipush (v := 9) dX10_rests_34 (by decide) ?_
      refine ez_icmp_gt (tgt := 82) dX10_rests_36 (by decide) (fun c8 => absurd c8 (Int32.not_lt.mpr (nI_le (b := 9) (by omega) (by decide)))) (fun c8 => ?_)
      refine ez_iload_n (i := 3) dX10_rests_39 rfl rfl ?_
      refine ez_iload (i := 4) dX10_rests_40 rfl ?_
      refine ez_iload_n (i := 1) dX10_rests_42 rfl rfl ?_
      refine ez_callS (M1 := mX10_isContent) (rest := []) dX10_rests_43 mlX10_400 msX10_isContent rfl (Nat.le_of_ble_eq_true rfl) rfl (y_X10_isContent (I := Ia2) (L := La2) (d + 58) (nI k) (nI j) v) eb_bok ?_
      rintro _ _ ⟨rfl, ⟨b9, rfl⟩ | ⟨b9, rfl⟩⟩
      · show ez_P _ _ _ _ _ _ 46 [(4, .int (nI j)), (2, .int n2), (3, .int (nI k)), (0, .ref 0), (1, .int v)] (.int 1 :: []) _ _
        refine ez_if_eq (tgt := 76) dX10_rests_46 (by decide) (fun c10 => absurd c10 (by decide)) (fun c10 => ?_)
        refine ez_iload (i := 4) dX10_rests_49 rfl ?_
        refine ez_iload_n (i := 3) dX10_rests_51 rfl rfl ?_
        refine ez_iload_n (i := 1) dX10_rests_52 rfl rfl ?_
        refine ez_callS (M1 := mX10_isContent) (rest := []) dX10_rests_53 mlX10_400 msX10_isContent rfl (Nat.le_of_ble_eq_true rfl) rfl (y_X10_isContent (I := Ia2) (L := La2) (d + 58) (nI j) (nI k) v) eb_bok ?_
        rintro _ _ ⟨rfl, ⟨b11, rfl⟩ | ⟨b11, rfl⟩⟩
        · show ez_P _ _ _ _ _ _ 56 [(4, .int (nI j)), (2, .int n2), (3, .int (nI k)), (0, .ref 0), (1, .int v)] (.int 1 :: []) _ _
          refine ez_if_eq (tgt := 76) dX10_rests_56 (by decide) (fun c12 => absurd c12 (by decide)) (fun c12 => ?_)
          refine ez_iload_n (i := 2) dX10_rests_59 rfl rfl ?_
          refine ez_if_ne (tgt := 73) dX10_rests_60 (by decide) (fun c13 => ?_) (fun c13 => ?_)
          · skip
            refine ez_iinc (v := (n2 + 1)) (l' := [(2, .int ((n2 + 1))), (4, .int (nI j)), (3, .int (nI k)), (0, .ref 0), (1, .int v)]) dX10_rests_73 rfl rfl (by decide) rfl ?_
            refine ez_iinc (v := (nI (j + 1))) (l' := [(4, .int ((nI (j + 1)))), (2, .int ((n2 + 1))), (3, .int (nI k)), (0, .ref 0), (1, .int v)]) dX10_rests_76 rfl (nI_1 _) (by decide) rfl ?_
            refine ez_goto (tgt := 32) dX10_rests_79 (by decide) ?_
            exact ez_eq (l2 := [(4, .int (nI (j + 1))), (2, .int ((n2 + 1))), (3, .int (nI k)), (0, .ref 0), (1, .int v)]) rfl rfl rfl rfl (ih2 (Ia2, La2, (n2 + 1), ro2) ⟨hKl2, (by rw [zrj_y b9 b11, ← hac2]; simp only [if_neg c13])⟩)
          · skip
            refine ez_aload_n (i := 0) dX10_rests_63 rfl rfl ?_
            refine ez_getR dX10_rests_64 flX10_19 (hF.lt (by decide)) (hF.kc (by decide) rfl) (hF.pt 3 rfl) ?_
            refine ez_iload_n (i := 3) dX10_rests_67 rfl rfl ?_
            refine ez_iload (i := 4) dX10_rests_68 rfl ?_
            refine ez_callV (M1 := mX4_tell_) (rest := []) dX10_rests_70 mlX10_204 mvX4_tell_ rfl (hF.lt (by decide)) (hF.kc (by decide) rfl) (Nat.le_of_ble_eq_true rfl) rfl (y_X4_tell_ (I := Ia2) (L := La2) (d + 58) hF (nI k) (nI j)) z_tok ?_
            rintro _ _ ⟨rfl, I14, L15, rfl, hr16, ho17⟩
            show ez_P _ _ _ _ _ _ 73 [(4, .int (nI j)), (2, .int n2), (3, .int (nI k)), (0, .ref 0), (1, .int v)] [] (n, sl, kd, I14, L15, Rf) _
            have hK18 : zK n kd I L Rf I I14 L15 Rf ((T.w_rw (List.map Int32.toInt64 ro2)).w_rw [(nI k).toInt64, (nI j).toInt64]) none none false := by exact hKl2.tell hr16 ho17
            refine ez_iinc (v := (n2 + 1)) (l' := [(2, .int ((n2 + 1))), (4, .int (nI j)), (3, .int (nI k)), (0, .ref 0), (1, .int v)]) dX10_rests_73 rfl rfl (by decide) rfl ?_
            refine ez_iinc (v := (nI (j + 1))) (l' := [(4, .int ((nI (j + 1)))), (2, .int ((n2 + 1))), (3, .int (nI k)), (0, .ref 0), (1, .int v)]) dX10_rests_76 rfl (nI_1 _) (by decide) rfl ?_
            refine ez_goto (tgt := 32) dX10_rests_79 (by decide) ?_
            exact ez_eq (l2 := [(4, .int (nI (j + 1))), (2, .int ((n2 + 1))), (3, .int (nI k)), (0, .ref 0), (1, .int v)]) rfl rfl rfl rfl (ih2 (I14, L15, (n2 + 1), [nI k, nI j]) ⟨hK18, (by rw [zrj_y b9 b11, ← hac2]; simp only [if_pos (Classical.not_not.mp c13)])⟩)
        · show ez_P _ _ _ _ _ _ 56 [(4, .int (nI j)), (2, .int n2), (3, .int (nI k)), (0, .ref 0), (1, .int v)] (.int 0 :: []) _ _
          refine ez_if_eq (tgt := 76) dX10_rests_56 (by decide) (fun c19 => ?_) (fun c19 => absurd (by decide) c19)
          refine ez_iinc (v := (nI (j + 1))) (l' := [(4, .int ((nI (j + 1)))), (2, .int n2), (3, .int (nI k)), (0, .ref 0), (1, .int v)]) dX10_rests_76 rfl (nI_1 _) (by decide) rfl ?_
          refine ez_goto (tgt := 32) dX10_rests_79 (by decide) ?_
          exact ez_eq (l2 := [(4, .int (nI (j + 1))), (2, .int n2), (3, .int (nI k)), (0, .ref 0), (1, .int v)]) rfl rfl rfl rfl (ih2 (Ia2, La2, n2, ro2) ⟨hKl2, (by rw [zrj_n (fun g => b11 g.2)]; exact hac2)⟩)
      · show ez_P _ _ _ _ _ _ 46 [(4, .int (nI j)), (2, .int n2), (3, .int (nI k)), (0, .ref 0), (1, .int v)] (.int 0 :: []) _ _
        refine ez_if_eq (tgt := 76) dX10_rests_46 (by decide) (fun c20 => ?_) (fun c20 => absurd (by decide) c20)
        refine ez_iinc (v := (nI (j + 1))) (l' := [(4, .int ((nI (j + 1)))), (2, .int n2), (3, .int (nI k)), (0, .ref 0), (1, .int v)]) dX10_rests_76 rfl (nI_1 _) (by decide) rfl ?_
        refine ez_goto (tgt := 32) dX10_rests_79 (by decide) ?_
        exact ez_eq (l2 := [(4, .int (nI (j + 1))), (2, .int n2), (3, .int (nI k)), (0, .ref 0), (1, .int v)]) rfl rfl rfl rfl (ih2 (Ia2, La2, n2, ro2) ⟨hKl2, (by rw [zrj_n (fun g => b9 g.1)]; exact hac2)⟩)
    · rintro ⟨Ia2, La2, n2, ro2⟩ ⟨hKl2, hac2⟩
      have hKl2 : zK n kd I L Rf I Ia2 La2 Rf (T.w_rw (List.map Int32.toInt64 ro2)) none none false := hKl2
      have hac2 : (n2, ro2) = zrj v k (nn, ro) 10 := hac2
      show ez_P _ _ _ _ _ _ 32 [(4, .int (nI 10)), (2, .int n2), (3, .int (nI k)), (0, .ref 0), (1, .int v)] [] (n, sl, kd, Ia2, La2, Rf) _
      refine ez_iload (i := 4) dX10_rests_32 rfl ?_
      refine ez_bipush (v := 9) dX10_rests_34 (by decide) ?_
      refine ez_icmp_gt (tgt := 82) dX10_rests_36 (by decide) (fun c21 => ?_) (fun c21 => absurd (by decide) c21)
      refine ez_iinc (v := (nI (k + 1))) (l' := [(3, .int ((nI (k + 1)))), (4, .int (nI 10)), (2, .int n2), (0, .ref 0), (1, .int v)]) dX10_rests_82 rfl (nI_1 _) (by decide) rfl ?_
      refine ez_goto (tgt := 23) dX10_rests_85 (by decide) ?_
      refine ez_sub (l' := [(3, .int ((nI (k + 1)))), (2, .int n2), (0, .ref 0), (1, .int v)]) [0, 2, 3, 4] rfl ?_
      exact ez_eq (l2 := [(3, .int (nI (k + 1))), (2, .int n2), (0, .ref 0), (1, .int v)]) rfl rfl rfl rfl (ih (Ia2, La2, n2, ro2) ⟨hKl2, (by rw [zri, ← hac]; exact hac2)⟩)
  · rintro ⟨Ia, La, nn, ro⟩ ⟨hKl, hac⟩
    have hKl : zK n kd I L Rf I Ia La Rf (T.w_rw (List.map Int32.toInt64 ro)) none none false := hKl
    have hac : (nn, ro) = zri v 10 := hac
    show ez_P _ _ _ _ _ _ 23 [(3, .int (nI 10)), (2, .int nn), (0, .ref 0), (1, .int v)] [] (n, sl, kd, Ia, La, Rf) _
    refine ez_iload_n (i := 3) dX10_rests_23 rfl rfl ?_
    refine ez_bipush (v := 9) dX10_rests_24 (by decide) ?_
    refine ez_icmp_gt (tgt := 88) dX10_rests_26 (by decide) (fun c22 => ?_) (fun c22 => absurd (by decide) c22)
    refine ez_iload_n (i := 2) dX10_rests_88 rfl rfl ?_
    refine ez_iret dX10_rests_89 rfl rfl ?_
    rw [show s_rests T v = (nn, T.w_rw (ro.map Int32.toInt64)) from by unfold s_rests; rw [if_pos hn, ← hac]]
    exact hKl.end
theorem c_rests_no {n : Nat} {sl : Nat × Nat} {kd : Nat → Nat × Nat} {I : Nat → Nat → Int32} {L : Nat → Nat → Int64} {Rf : Nat → Nat → Option Nat} (d : Nat) {T : zT} {H : Nat} (hC : zC n kd I L Rf T) (hO : zOk H T) (hH : H ≤ 1000000000) {v : Int32} (hn : ¬ (0 ≤ v ∧ v ≤ 18)) : zq mX10_rests (d + 60) [.ref 0, .int v] (n, sl, kd, I, L, Rf) (zpC n sl kd I L Rf (some (.int (s_rests T v).1)) (s_rests T v).2) := by
  have hF := hC.F; have hc7 := hO.c
  have hK0 : zK n kd I L Rf I I L Rf T none none false := zK.start hC
  have hsp : s_rests T v = ((-1), T) := (by unfold s_rests; rw [if_neg hn])
  rw [hsp]
  intro f B
  refine ez_meth pn_X.2.2.2.2.2.2.2.2.2.2.1 (Nat.le_of_ble_eq_true rfl) ?_
  show ez_P _ _ _ _ _ _ 0 [(0, .ref 0), (1, .int v)] [] (n, sl, kd, I, L, Rf) _
  refine ez_iload_n (i := 1) dX10_rests_0 rfl rfl ?_
  refine ez_iconst (v := 0) dX10_rests_1 (by decide) ?_
  refine ez_bipush (v := 18) dX10_rests_2 (by decide) ?_
  refine ez_callS (M1 := mX10_within) (rest := []) dX10_rests_4 mlX10_158 msX10_within rfl (Nat.le_of_ble_eq_true rfl) rfl (zq_b0 hn (zq_b (q_X10_within (d + 59) v 0 18) (n, sl, kd, I, L, Rf))) eb_rok ?_
  rintro _ _ ⟨rfl, rfl⟩
  show ez_P _ _ _ _ _ _ 7 [(0, .ref 0), (1, .int v)] (.int 0 :: []) _ _
  refine ez_if_ne (tgt := 12) dX10_rests_7 (by decide) (fun c1 => absurd c1 (by decide)) (fun c1 => ?_)
  refine ez_iconst (v := (-1)) dX10_rests_10 (by decide) ?_
  refine ez_iret dX10_rests_11 rfl rfl ?_
  exact hK0.end
theorem c_rests {n : Nat} {sl : Nat × Nat} {kd : Nat → Nat × Nat} {I : Nat → Nat → Int32} {L : Nat → Nat → Int64} {Rf : Nat → Nat → Option Nat} (d : Nat) {T : zT} {H : Nat} (hC : zC n kd I L Rf T) (hO : zOk H T) (hH : H ≤ 1000000000) (v : Int32) : zq mX10_rests (d + 60) [.ref 0, .int v] (n, sl, kd, I, L, Rf) (zpC n sl kd I L Rf (some (.int (s_rests T v).1)) (s_rests T v).2) := by
  by_cases hn : 0 ≤ v ∧ v ≤ 18
  · exact c_rests_ok d hC hO hH hn
  · exact c_rests_no d hC hO hH hn
