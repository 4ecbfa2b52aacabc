/-! Sea: cells i, i + 1 prices, i + 2 winds, rules at i + 3 and i + 8, i + 13 things, i + 14 ballasts, i + 15 stamps; a: the rule in use -/
def eb_sea (n : Nat) (kd : Nat → Nat × Nat) (Rf : Nat → Nat → Option Nat) (i a : Nat) : Prop := (kd i).1 = 6 ∧ kd (i + 1) = (20, 6) ∧ kd (i + 2) = (20, 20) ∧ kd (i + 13) = (20, 7) ∧ kd (i + 14) = (20, 147) ∧ kd (i + 15) = (20, 147) ∧ Rf i 0 = some (i + 1) ∧ Rf i 1 = some (i + 2) ∧ Rf i 3 = some a ∧ Rf i 5 = some (i + 13) ∧ Rf i 6 = some (i + 14) ∧ Rf i 7 = some (i + 15) ∧ eb_rul n kd Rf a ∧ (a = i + 3 ∨ a = i + 8) ∧ i + 15 < n ∧ n < 1000000
theorem eb_sea.x {n : Nat} {kd : Nat → Nat × Nat} {Rf : Nat → Nat → Option Nat} {i a : Nat} (h : eb_sea n kd Rf i a) : i + 15 < n ∧ n < 1000000 := h.2.2.2.2.2.2.2.2.2.2.2.2.2.2
theorem eb_sea.r {n : Nat} {kd : Nat → Nat × Nat} {Rf : Nat → Nat → Option Nat} {i a : Nat} (h : eb_sea n kd Rf i a) : eb_rul n kd Rf a := h.2.2.2.2.2.2.2.2.2.2.2.2.1
theorem eb_sea.a {n : Nat} {kd : Nat → Nat × Nat} {Rf : Nat → Nat → Option Nat} {i a : Nat} (h : eb_sea n kd Rf i a) : a = i + 3 ∨ a = i + 8 := h.2.2.2.2.2.2.2.2.2.2.2.2.2.1
def z_ab (x : Int32) : Int32 := if 0 ≤ x then x else 0 - x
def z_t7 (g p k pl l b h : Int32) : Nat → Int32 := fun q => if q = 0 then g else if q = 1 then p else if q = 2 then k else if q = 3 then pl else if q = 4 then l else if q = 5 then b else if q = 6 then h else 0
theorem z_stp_th {th th' : Nat → Int32} (h : ∀ q, q < 7 → th q = th' q) (cd : Int32) (u : List Int32) : z_stp th cd u = z_stp th' cd u := by
  by_cases h0 : 0 ≤ cd
  · rw [z_stp_n h0, z_stp_n h0]
  · have hc := Int32.not_le.mp h0
    by_cases h7 : 7 ≤ -1 - cd
    · unfold z_stp
      rw [if_neg h0, if_neg h0, if_neg (Int32.not_lt.mpr h7), if_neg (Int32.not_lt.mpr h7)]
    · rw [z_stp_l hc rfl h7, z_stp_l hc rfl h7]
      obtain ⟨j, hj, e⟩ := pk_of (x := -1 - cd) (c := 7) (by decide) (z_ltp hc rfl) (Int32.not_le.mp h7)
      rw [e, nI_clamp (by omega), h j hj]
theorem z_val_th {pg th th' : Nat → Int32} (h : ∀ q, q < 7 → th q = th' q) (s : Nat) : z_val pg th s = z_val pg th' s := by
  have e : ∀ k, z_rs pg th k = z_rs pg th' k := by
    intro k
    induction k with
    | zero => rfl
    | succ k ih => rw [z_rs, z_rs, ih, z_stp_th h]
  rw [z_val, z_val, e]
theorem q_X6_priceOf {n : Nat} {sl : Nat × Nat} {kd : Nat → Nat × Nat} {I : Nat → Nat → Int32} {L : Nat → Nat → Int64} {Rf : Nat → Nat → Option Nat} (d : Nat) {i a : Nat} (h : eb_sea n kd Rf i a) {k : Nat} (hk : k < 6) : eb_Q mX6_priceOf d [.ref i, .int (nI k)] (n, sl, kd, I, L, Rf) (eb_r (I (i + 1) k) (n, sl, kd, I, L, Rf)) := by
  refine ep_meth pn_X.2.2.2.2.2.2.1 (Nat.le_of_ble_eq_true rfl) ?_
  show eb_P mX6_priceOf (d) 0 [(0, .ref i), (1, .int (nI k))] [] (n, sl, kd, I, L, Rf) _
  refine ep_iload_n (i := 1) dX6_priceOf_0 rfl rfl ?_
  refine ep_if_lt (tgt := 19) dX6_priceOf_1 (by decide) (fun c1 => absurd c1 (nI_pos (by omega))) (fun c1 => ?_)
  refine ep_iload_n (i := 1) dX6_priceOf_4 rfl rfl ?_
  refine ep_bipush (v := 6) dX6_priceOf_5 (by decide) ?_
  refine ep_icmp_ge (tgt := 19) dX6_priceOf_7 (by decide) (fun c2 => absurd c2 (nI_ge (a := k) (b := 6) hk (by decide))) (fun c2 => ?_)
  refine ep_aload_n (i := 0) dX6_priceOf_10 rfl rfl ?_
  refine ep_getR dX6_priceOf_11 flX6_9 (by have := h.x; omega) h.1 h.2.2.2.2.2.2.1 ?_
  refine ep_iload_n (i := 1) dX6_priceOf_14 rfl rfl ?_
  refine ep_iaN (k := k) dX6_priceOf_15 (by have := h.x; omega) h.2.1 (by omega) (by decide) ?_
  refine ep_goto (tgt := 20) dX6_priceOf_16 (by decide) ?_
  refine ep_iret dX6_priceOf_20 rfl rfl ?_
  exact ⟨rfl, rfl⟩
theorem q_X6_windAt {n : Nat} {sl : Nat × Nat} {kd : Nat → Nat × Nat} {I : Nat → Nat → Int32} {L : Nat → Nat → Int64} {Rf : Nat → Nat → Option Nat} (d : Nat) {i a : Nat} (h : eb_sea n kd Rf i a) {k m : Nat} (hm : I i 2 = nI m) (hm0 : 0 < m) (hm2 : m ≤ 20) (hk : k < 2147483648) : eb_Q mX6_windAt d [.ref i, .int (nI k)] (n, sl, kd, I, L, Rf) (eb_r (I (i + 2) (k % m)) (n, sl, kd, I, L, Rf)) := by
  refine ep_meth pn_X.2.2.2.2.2.2.1 (Nat.le_of_ble_eq_true rfl) ?_
  show eb_P mX6_windAt (d) 0 [(0, .ref i), (1, .int (nI k))] [] (n, sl, kd, I, L, Rf) _
  refine ep_aload_n (i := 0) dX6_windAt_0 rfl rfl ?_
  refine ep_getI dX6_windAt_1 flX6_18 (by have := h.x; omega) h.1 ?_
  refine ep_topE (y := nI m) hm ?_
  refine ep_if_le (tgt := 16) dX6_windAt_4 (by decide) (fun c1 => absurd c1 (fun g => absurd g (by have g1 := nI_lt (a := 0) (b := m) hm0 (by omega); rw [nI_0] at g1; exact Int32.not_le.mpr g1))) (fun c1 => ?_)
  refine ep_iload_n (i := 1) dX6_windAt_7 rfl rfl ?_
  refine ep_aload_n (i := 0) dX6_windAt_8 rfl rfl ?_
  refine ep_getI dX6_windAt_9 flX6_18 (by have := h.x; omega) h.1 ?_
  refine ep_topE (y := nI m) hm ?_
  refine ep_irem dX6_windAt_12 (nI_ne0 hm0 (by omega)) ?_
  refine ep_topE (y := nI (k % m)) (pk_rem (a := k) (d := m) hk hm0 (by omega)) ?_
  refine ep_goto (tgt := 17) dX6_windAt_13 (by decide) ?_
  refine ep_istore_n (l' := [(2, .int (nI (k % m))), (0, .ref i), (1, .int (nI k))]) dX6_windAt_17 rfl (by decide) rfl ?_
  refine ep_iload_n (i := 2) dX6_windAt_18 rfl rfl ?_
  refine ep_if_lt (tgt := 40) dX6_windAt_19 (by decide) (fun c2 => absurd c2 (nI_pos (by have := Nat.mod_lt k hm0; omega))) (fun c2 => ?_)
  refine ep_iload_n (i := 2) dX6_windAt_22 rfl rfl ?_
  refine ep_aload_n (i := 0) dX6_windAt_23 rfl rfl ?_
  refine ep_getR dX6_windAt_24 flX6_15 (by have := h.x; omega) h.1 h.2.2.2.2.2.2.2.1 ?_
  refine ep_alen (v := 20) dX6_windAt_27 (by have := h.x; omega) h.2.2.1 (by decide) (by decide) ?_
  refine ep_icmp_ge (tgt := 40) dX6_windAt_28 (by decide) (fun c3 => absurd c3 (nI_ge (a := k % m) (b := 20) (by have := Nat.mod_lt k hm0; omega) (by decide))) (fun c3 => ?_)
  refine ep_aload_n (i := 0) dX6_windAt_31 rfl rfl ?_
  refine ep_getR dX6_windAt_32 flX6_15 (by have := h.x; omega) h.1 h.2.2.2.2.2.2.2.1 ?_
  refine ep_iload_n (i := 2) dX6_windAt_35 rfl rfl ?_
  refine ep_iaN (k := (k % m)) dX6_windAt_36 (by have := h.x; omega) h.2.2.1 (by have := Nat.mod_lt k hm0; omega) (by decide) ?_
  refine ep_goto (tgt := 41) dX6_windAt_37 (by decide) ?_
  refine ep_iret dX6_windAt_41 rfl rfl ?_
  exact ⟨rfl, rfl⟩
theorem q_X6_begin {n : Nat} {sl : Nat × Nat} {kd : Nat → Nat × Nat} {I : Nat → Nat → Int32} {L : Nat → Nat → Int64} {Rf : Nat → Nat → Option Nat} (d : Nat) {i a : Nat} (h : eb_sea n kd Rf i a)  : eb_Q mX6_begin d [.ref i] (n, sl, kd, I, L, Rf) (eb_v (n, sl, kd, z_set I i 8 (I i 8 + 1), L, Rf)) := by
  refine ep_meth pn_X.2.2.2.2.2.2.1 (Nat.le_of_ble_eq_true rfl) ?_
  show eb_P mX6_begin (d) 0 [(0, .ref i)] [] (n, sl, kd, I, L, Rf) _
  refine ep_aload_n (i := 0) dX6_begin_0 rfl rfl ?_
  refine ep_dup dX6_begin_1 rfl ?_
  refine ep_getI dX6_begin_2 flX6_100 (by have := h.x; omega) h.1 ?_
  refine ep_iconst (v := 1) dX6_begin_5 (by decide) ?_
  refine ep_iadd dX6_begin_6 ?_
  refine ep_pI dX6_begin_7 plX6_100 (by have := h.x; omega) (by have := h.x; omega) h.1 rfl rfl ?_
  refine ep_nmI (fun I1 hI1 => ?_)
  refine ep_vret dX6_begin_10 rfl ?_
  exact ⟨by simp_all, rfl⟩
/-- only the cells of P are others -/
def z_only (P : Nat → Prop) (I I1 : Nat → Nat → Int32) : Prop := ∀ c, ¬ P c → I1 c = I c
theorem z_only.tr {P : Nat → Prop} {I I1 I2 : Nat → Nat → Int32} (h : z_only P I I1) (g : z_only P I1 I2) : z_only P I I2 := fun c hc => (g c hc).trans (h c hc)
theorem z_only.mono {P Q : Nat → Prop} {I I1 : Nat → Nat → Int32} (h : z_only P I I1) (hPQ : ∀ c, P c → Q c) : z_only Q I I1 := fun c hc => h c (fun z => hc (hPQ c z))
/-- a brother's weight by the rule's program pg of s signs, if he had a thought of price pr and k others had it -/
def z_wa (pg : Nat → Int32) (s : Nat) (g pr k pl ln b hr : Int32) : Int32 := z_put (z_val pg (z_t7 g pr k (z_ab pl) (z_ab ln) b (hr - hr / 7 * 7)) s) 0 20
theorem q_X6_weightAs {n : Nat} {sl : Nat × Nat} {kd : Nat → Nat × Nat} {I : Nat → Nat → Int32} {L : Nat → Nat → Int64} {Rf : Nat → Nat → Option Nat} (d : Nat) {i a : Nat} (h : eb_sea n kd Rf i a) {j b : Nat} (g : eb_shp n kd Rf j) (hd : j + 4 ≤ i ∨ i + 16 ≤ j) (hb : b < 7) {s0 : Nat} (hs : I a 4 = nI s0) (hs4 : s0 ≤ 40) {th : Nat} (hth : th < 6) (k : Int32) : eb_Q mX6_weightAs (d + 2) [.ref i, .ref j, .int (nI b), .int (nI th), .int k] (n, sl, kd, I, L, Rf) (eb_ri n sl kd L Rf (z_wa (I (a + 1)) s0 (I (j + 1) b) (I (i + 1) th) k (I (j + 3) b) (I j 5) (nI b) (I j 8)) (z_only (fun c => c = i + 13 ∨ c = a + 3) I)) := by
  refine ep_meth pn_X.2.2.2.2.2.2.1 (Nat.le_of_ble_eq_true rfl) ?_
  show eb_P mX6_weightAs (d + 2) 0 [(0, .ref i), (1, .ref j), (2, .int (nI b)), (3, .int (nI th)), (4, .int k)] [] (n, sl, kd, I, L, Rf) _
  refine ep_aload_n (i := 0) dX6_weightAs_0 rfl rfl ?_
  refine ep_getR dX6_weightAs_1 flX6_32 (by have := h.x; omega) h.1 h.2.2.2.2.2.2.2.2.2.1 ?_
  refine ep_iconst (v := 0) dX6_weightAs_4 (by decide) ?_
  refine ep_aload_n (i := 1) dX6_weightAs_5 rfl rfl ?_
  refine ep_getR dX6_weightAs_6 flX6_65 g.i0 g.1 g.2.2.2.2.1 ?_
  refine ep_iload_n (i := 2) dX6_weightAs_9 rfl rfl ?_
  refine ep_iaN (k := b) dX6_weightAs_10 g.i1 g.2.1 (by omega) (by decide) ?_
  refine ep_isN (k := 0) dX6_weightAs_11 (by have := h.x; omega) (by have := h.x; omega) h.2.2.2.1 (by omega) (by decide) ?_
  refine ep_nmI (fun I1 hI1 => ?_)
  refine ep_aload_n (i := 0) dX6_weightAs_12 rfl rfl ?_
  refine ep_getR dX6_weightAs_13 flX6_32 (by have := h.x; omega) h.1 h.2.2.2.2.2.2.2.2.2.1 ?_
  refine ep_iconst (v := 1) dX6_weightAs_16 (by decide) ?_
  refine ep_aload_n (i := 0) dX6_weightAs_17 rfl rfl ?_
  refine ep_iload_n (i := 3) dX6_weightAs_18 rfl rfl ?_
  refine ep_callV (M1 := mX6_priceOf) (rest := [.int 1, .ref (i + 13)]) dX6_weightAs_19 mlX6_68 mvX6_priceOf rfl (by have := h.x; omega) h.1 (Nat.le_of_ble_eq_true rfl) rfl (q_X6_priceOf (I := I1) (d + 1) h hth) eb_rok ?_
  rintro _ _ ⟨rfl, rfl⟩
  show eb_P _ _ 22 [(0, .ref i), (1, .ref j), (2, .int (nI b)), (3, .int (nI th)), (4, .int k)] (.int (I1 (i + 1) th) :: [.int 1, .ref (i + 13)]) _ _
  refine ep_isN (k := 1) dX6_weightAs_22 (by have := h.x; omega) (by have := h.x; omega) h.2.2.2.1 (by omega) (by decide) ?_
  refine ep_nmI (fun I2 hI2 => ?_)
  refine ep_aload_n (i := 0) dX6_weightAs_23 rfl rfl ?_
  refine ep_getR dX6_weightAs_24 flX6_32 (by have := h.x; omega) h.1 h.2.2.2.2.2.2.2.2.2.1 ?_
  refine ep_iconst (v := 2) dX6_weightAs_27 (by decide) ?_
  refine ep_iload (i := 4) dX6_weightAs_28 rfl ?_
  refine ep_isN (k := 2) dX6_weightAs_30 (by have := h.x; omega) (by have := h.x; omega) h.2.2.2.1 (by omega) (by decide) ?_
  refine ep_nmI (fun I3 hI3 => ?_)
  refine ep_aload_n (i := 0) dX6_weightAs_31 rfl rfl ?_
  refine ep_getR dX6_weightAs_32 flX6_32 (by have := h.x; omega) h.1 h.2.2.2.2.2.2.2.2.2.1 ?_
  refine ep_iconst (v := 3) dX6_weightAs_35 (by decide) ?_
  refine ep_aload_n (i := 1) dX6_weightAs_36 rfl rfl ?_
  refine ep_getR dX6_weightAs_37 flX6_71 g.i0 g.1 g.2.2.2.2.2.2.1 ?_
  refine ep_iload_n (i := 2) dX6_weightAs_40 rfl rfl ?_
  refine ep_iaN (k := b) dX6_weightAs_41 g.i3 g.2.2.2.1 (by omega) (by decide) ?_
  refine ep_topE (y := I (j + 3) b) (by rw [hI3, z_set_ne (by omega), hI2, z_set_ne (by omega), hI1, z_set_ne (by omega)]) ?_
  refine ep_abs dX6_weightAs_42 xmX6_74 (Nat.le_of_ble_eq_true rfl) ?_
  refine ep_topE (y := z_ab (I (j + 3) b)) rfl ?_
  refine ep_isN (k := 3) dX6_weightAs_45 (by have := h.x; omega) (by have := h.x; omega) h.2.2.2.1 (by omega) (by decide) ?_
  refine ep_nmI (fun I4 hI4 => ?_)
  refine ep_aload_n (i := 0) dX6_weightAs_46 rfl rfl ?_
  refine ep_getR dX6_weightAs_47 flX6_32 (by have := h.x; omega) h.1 h.2.2.2.2.2.2.2.2.2.1 ?_
  refine ep_iconst (v := 4) dX6_weightAs_50 (by decide) ?_
  refine ep_aload_n (i := 1) dX6_weightAs_51 rfl rfl ?_
  refine ep_getI dX6_weightAs_52 flX6_79 g.i0 g.1 ?_
  refine ep_topE (y := I j 5) (by rw [hI4, z_set_ne (by omega), hI3, z_set_ne (by omega), hI2, z_set_ne (by omega), hI1, z_set_ne (by omega)]) ?_
  refine ep_abs dX6_weightAs_55 xmX6_74 (Nat.le_of_ble_eq_true rfl) ?_
  refine ep_topE (y := z_ab (I j 5)) rfl ?_
  refine ep_isN (k := 4) dX6_weightAs_58 (by have := h.x; omega) (by have := h.x; omega) h.2.2.2.1 (by omega) (by decide) ?_
  refine ep_nmI (fun I5 hI5 => ?_)
  refine ep_aload_n (i := 0) dX6_weightAs_59 rfl rfl ?_
  refine ep_getR dX6_weightAs_60 flX6_32 (by have := h.x; omega) h.1 h.2.2.2.2.2.2.2.2.2.1 ?_
  refine ep_iconst (v := 5) dX6_weightAs_63 (by decide) ?_
  refine ep_iload_n (i := 2) dX6_weightAs_64 rfl rfl ?_
  refine ep_isN (k := 5) dX6_weightAs_65 (by have := h.x; omega) (by have := h.x; omega) h.2.2.2.1 (by omega) (by decide) ?_
  refine ep_nmI (fun I6 hI6 => ?_)
  refine ep_aload_n (i := 0) dX6_weightAs_66 rfl rfl ?_
  refine ep_getR dX6_weightAs_67 flX6_32 (by have := h.x; omega) h.1 h.2.2.2.2.2.2.2.2.2.1 ?_
  refine ep_bipush (v := 6) dX6_weightAs_70 (by decide) ?_
  refine ep_aload_n (i := 1) dX6_weightAs_72 rfl rfl ?_
  refine ep_getI dX6_weightAs_73 flX6_82 g.i0 g.1 ?_
  refine ep_topE (y := I j 8) (by rw [hI6, z_set_ne (by omega), hI5, z_set_ne (by omega), hI4, z_set_ne (by omega), hI3, z_set_ne (by omega), hI2, z_set_ne (by omega), hI1, z_set_ne (by omega)]) ?_
  refine ep_bipush (v := 7) dX6_weightAs_76 (by decide) ?_
  refine ep_irem dX6_weightAs_78 (by decide) ?_
  refine ep_topE (y := I j 8 - I j 8 / 7 * 7) rfl ?_
  refine ep_isN (k := 6) dX6_weightAs_79 (by have := h.x; omega) (by have := h.x; omega) h.2.2.2.1 (by omega) (by decide) ?_
  refine ep_nmI (fun I7 hI7 => ?_)
  refine ep_aload_n (i := 0) dX6_weightAs_80 rfl rfl ?_
  refine ep_getR dX6_weightAs_81 flX6_25 (by have := h.x; omega) h.1 h.2.2.2.2.2.2.2.2.1 ?_
  refine ep_aload_n (i := 0) dX6_weightAs_84 rfl rfl ?_
  refine ep_getR dX6_weightAs_85 flX6_32 (by have := h.x; omega) h.1 h.2.2.2.2.2.2.2.2.2.1 ?_
  refine ep_callV (M1 := mX5_valueBy) (rest := []) dX6_weightAs_88 mlX6_85 mvX5_valueBy rfl (by have := h.r.2.2.2.2.2.2.2.2.2.1; omega) h.r.1 (Nat.le_of_ble_eq_true rfl) rfl (q_X5_valueBy (I := I7) (s := s0) d h.r ⟨(by have := h.x; omega), h.2.2.2.1⟩ (by have := h.a; omega) (by simp only [hI1, hI2, hI3, hI4, hI5, hI6, hI7, z_set]; simp [show ¬ a = i + 13 from by have := h.a; omega]; exact hs) hs4) eb_riok ?_
  rintro _ _ ⟨rfl, Iv, rfl, hIv⟩
  show eb_P _ _ 91 [(0, .ref i), (1, .ref j), (2, .int (nI b)), (3, .int (nI th)), (4, .int k)] (.int (z_val (I7 (a + 1)) (I7 (i + 13)) s0) :: []) (n, sl, kd, Iv, L, Rf) _
  refine ep_iconst (v := 0) dX6_weightAs_91 (by decide) ?_
  refine ep_bipush (v := 20) dX6_weightAs_92 (by decide) ?_
  refine ep_callS (M1 := mX10_putTo) (rest := []) dX6_weightAs_94 mlX6_89 msX10_putTo rfl (Nat.le_of_ble_eq_true rfl) rfl (q_X10_putTo (d + 1) (z_val (I7 (a + 1)) (I7 (i + 13)) s0) 0 20 _) eb_rok ?_
  rintro _ _ ⟨rfl, rfl⟩
  show eb_P _ _ 97 [(0, .ref i), (1, .ref j), (2, .int (nI b)), (3, .int (nI th)), (4, .int k)] (.int (z_put (z_val (I7 (a + 1)) (I7 (i + 13)) s0) 0 20) :: []) _ _
  refine ep_iret dX6_weightAs_97 rfl rfl ?_
  refine ⟨?_, _, rfl, ?_⟩
  · have e1 : I7 (a + 1) = I (a + 1) := by rw [hI7, z_set_ne (by have := h.a; omega), hI6, z_set_ne (by have := h.a; omega), hI5, z_set_ne (by have := h.a; omega), hI4, z_set_ne (by have := h.a; omega), hI3, z_set_ne (by have := h.a; omega), hI2, z_set_ne (by have := h.a; omega), hI1, z_set_ne (by have := h.a; omega)]
    have e2 : ∀ q, q < 7 → I7 (i + 13) q = z_t7 (I (j + 1) b) (I (i + 1) th) k (z_ab (I (j + 3) b)) (z_ab (I j 5)) (nI b) (I j 8 - I j 8 / 7 * 7) q := by
      intro q hq
      rcases (show q = 0 ∨ q = 1 ∨ q = 2 ∨ q = 3 ∨ q = 4 ∨ q = 5 ∨ q = 6 by omega) with rfl | rfl | rfl | rfl | rfl | rfl | rfl <;> simp [hI1, hI2, hI3, hI4, hI5, hI6, hI7, z_set, z_t7]
    rw [e1, z_val_th e2]
    rfl
  · intro c hc
    rw [hIv c (fun e => hc (Or.inr e))]
    funext q
    simp only [hI1, hI2, hI3, hI4, hI5, hI6, hI7, z_set]
    simp [show ¬ c = i + 13 from fun e => hc (Or.inl e)]
