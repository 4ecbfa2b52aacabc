/-! Sea.letHoursGo -/
def z_wd (I : Nat → Nat → Int32) (i m : Nat) : Nat → Int32 := fun hr => I (i + 2) (hr % m)
def z_blB (I : Nat → Nat → Int32) (a : Nat) (B : Nat → Int32) : Int32 → Nat → Int32 := fun ln hr => B (z_pl I a (z_ab ln).toNatClampNeg hr)
/-- B is the ballast of the ship j by every lean and hour -/
def z_BB (I : Nat → Nat → Int32) (i a s0 j c : Nat) (B : Nat → Int32) : Prop := ∀ (ln : Int32) (hr : Nat), z_rg ln → hr < 2147483648 → B (z_pl I a (z_ab ln).toNatClampNeg hr) = z_bv I i a s0 j c ln (nI hr) c
/-- the cells that hours of the ship j change -/
def z_hc (i a j : Nat) (c : Nat) : Prop := c = i + 13 ∨ c = a + 3 ∨ c = i + 14 ∨ c = i + 15 ∨ c = j
theorem q_X6_letHoursGo {n : Nat} {sl : Nat × Nat} {kd : Nat → Nat × Nat} {I : Nat → Nat → Int32} {L : Nat → Nat → Int64} {Rf : Nat → Nat → Option Nat} (d : Nat) {i a : Nat} (h : eb_sea n kd Rf i a) {j c : Nat} (g : eb_shp n kd Rf j) (hd : j + 4 ≤ i ∨ i + 16 ≤ j) (hT : z_thk I j c) {s0 : Nat} (hs : I a 4 = nI s0) (hs4 : s0 ≤ 40) {m : Nat} (hm : I i 2 = nI m) (hm0 : 0 < m) (hm2 : m ≤ 20) {B : Nat → Int32} (hB : z_BB I i a s0 j c B) {st : Nat} (hmm : z_mm I i B) (hst : z_stb I i st) {S : z_S} (hS : z_SI I j S) (hrg : z_rg S.2.1) {N : Nat} (hN : S.2.2.2.2 + N < 2147483648)  : eb_Q mX6_letHoursGo (d + 5) [.ref i, .ref j, .int (nI N)] (n, sl, kd, I, L, Rf) (eb_ri n sl kd L Rf (z_hts (z_wd I i m) (z_blB I a B) S N) (fun I1 => z_only (z_hc i a j) I I1 ∧ z_SI I1 j (z_hs (z_wd I i m) (z_blB I a B) S N) ∧ (∀ q, q < 4 ∨ 8 < q → I1 j q = I j q) ∧ z_mm I1 i B ∧ z_stb I1 i st)) := by
  refine ep_meth pn_X.2.2.2.2.2.2.1 (Nat.le_of_ble_eq_true rfl) ?_
  show eb_P mX6_letHoursGo (d + 5) 0 [(0, .ref i), (1, .ref j), (2, .int (nI N))] [] (n, sl, kd, I, L, Rf) _
  refine ep_iconst (v := 0) dX6_letHoursGo_0 (by decide) ?_
  refine ep_istore_n (l' := [(3, .int 0), (0, .ref i), (1, .ref j), (2, .int (nI N))]) dX6_letHoursGo_1 rfl (by decide) rfl ?_
  refine ep_iconst (v := 0) dX6_letHoursGo_2 (by decide) ?_
  refine ep_istore (l' := [(4, .int 0), (3, .int 0), (0, .ref i), (1, .ref j), (2, .int (nI N))]) dX6_letHoursGo_3 (by decide) rfl ?_
  refine ep_eq (l2 := [(4, .int (nI 0)), (3, .int (z_hts (z_wd I i m) (z_blB I a B) S 0)), (0, .ref i), (1, .ref j), (2, .int (nI N))]) rfl (by rw [nI_0]; rfl) rfl rfl ?_
  refine ep_for N (fun k (Ik : Nat → Nat → Int32) => ([(4, .int (nI k)), (3, .int (z_hts (z_wd I i m) (z_blB I a B) S k)), (0, .ref i), (1, .ref j), (2, .int (nI N))], (n, sl, kd, Ik, L, Rf))) (fun k Ik => z_only (z_hc i a j) I Ik ∧ z_SI Ik j (z_hs (z_wd I i m) (z_blB I a B) S k) ∧ (∀ q, q < 4 ∨ 8 < q → Ik j q = I j q) ∧ z_mm Ik i B ∧ z_stb Ik i st) ?_ ?_ N 0 I (by omega) ⟨fun _ _ => rfl, hS, fun _ _ => rfl, hmm, hst⟩
  · intro k Ik hk hinv ih
    have hrk := z_hs_hr (z_wd I i m) (z_blB I a B) S k
    have hlk := z_hs_rg (z_wd I i m) (z_blB I a B) S hrg k
    obtain ⟨T, hT1⟩ : ∃ T, z_hs (z_wd I i m) (z_blB I a B) S k = T := ⟨_, rfl⟩
    have hIS : z_SI Ik j (z_hs (z_wd I i m) (z_blB I a B) S k) := hinv.2.1
    rw [hT1] at hrk hlk hIS
    obtain ⟨sa, le, lg, ov, hr⟩ := T
    obtain ⟨e4, e5, e6, e7, e8⟩ := hIS
    have hle : z_rg le := hlk
    have hrk : hr = S.2.2.2.2 + k := hrk
    obtain ⟨w, hw⟩ : ∃ w, w = z_wd I i m hr := ⟨_, rfl⟩
    obtain ⟨bal, hbal⟩ : ∃ x, x = z_blB I a B le hr := ⟨_, rfl⟩
    obtain ⟨l1, hl1⟩ : ∃ x, x = z_lb le (z_pull bal w sa) := ⟨_, rfl⟩
    have hl2 : z_hl (z_wd I i m) (z_blB I a B) (sa, le, lg, ov, hr) = l1 := by rw [hl1, hbal, hw]; rfl
    obtain ⟨md, hmd⟩ : ∃ x, x = z_ab (w * sa) / 3 - z_ab l1 / 2 := ⟨_, rfl⟩
    have hpl : z_pl Ik a (z_ab le).toNatClampNeg hr = z_pl I a (z_ab le).toNatClampNeg hr := by unfold z_pl; rw [hinv.1 a (by unfold z_hc; have := h.a; have := h.x; have := g.x; omega)]
    show eb_P _ _ 5 [(4, .int (nI k)), (3, .int (z_hts (z_wd I i m) (z_blB I a B) S k)), (0, .ref i), (1, .ref j), (2, .int (nI N))] [] (n, sl, kd, Ik, L, Rf) _
    refine ep_iload (i := 4) dX6_letHoursGo_5 rfl ?_
    refine ep_iload_n (i := 2) dX6_letHoursGo_7 rfl rfl ?_
    refine ep_icmp_ge (tgt := 143) dX6_letHoursGo_8 (by decide) (fun c1 => absurd c1 (nI_ge hk (by omega))) (fun c1 => ?_)
    refine ep_aload_n (i := 0) dX6_letHoursGo_11 rfl rfl ?_
    refine ep_aload_n (i := 1) dX6_letHoursGo_12 rfl rfl ?_
    refine ep_getI dX6_letHoursGo_13 flX6_82 g.i0 g.1 ?_
    refine ep_topE (y := nI hr) e8 ?_
    refine ep_callV (M1 := mX6_windAt) (rest := []) dX6_letHoursGo_16 mlX6_113 mvX6_windAt rfl (by have := h.x; omega) h.1 (Nat.le_of_ble_eq_true rfl) rfl (q_X6_windAt (I := Ik) (d + 4) h (k := hr) (m := m) (by rw [hinv.1 i (by unfold z_hc; have := h.a; have := h.x; have := g.x; omega)]; exact hm) hm0 hm2 (by omega)) eb_rok ?_
    rintro _ _ ⟨rfl, rfl⟩
    show eb_P _ _ 19 [(4, .int (nI k)), (3, .int (z_hts (z_wd I i m) (z_blB I a B) S k)), (0, .ref i), (1, .ref j), (2, .int (nI N))] (.int (Ik (i + 2) (hr % m)) :: []) _ _
    refine ep_topE (y := w) (by rw [hw, hinv.1 (i + 2) (by unfold z_hc; have := h.a; have := h.x; have := g.x; omega)]; rfl) ?_
    refine ep_istore (l' := [(5, .int w), (4, .int (nI k)), (3, .int (z_hts (z_wd I i m) (z_blB I a B) S k)), (0, .ref i), (1, .ref j), (2, .int (nI N))]) dX6_letHoursGo_19 (by decide) rfl ?_
    refine ep_aload_n (i := 1) dX6_letHoursGo_21 rfl rfl ?_
    refine ep_aload_n (i := 1) dX6_letHoursGo_22 rfl rfl ?_
    refine ep_getI dX6_letHoursGo_23 flX6_79 g.i0 g.1 ?_
    refine ep_topE (y := le) e5 ?_
    refine ep_aload_n (i := 0) dX6_letHoursGo_26 rfl rfl ?_
    refine ep_aload_n (i := 1) dX6_letHoursGo_27 rfl rfl ?_
    refine ep_callV (M1 := mX6_ballastInHours) (rest := [.int le, .ref j]) dX6_letHoursGo_28 mlX6_96 mvX6_ballastInHours rfl (by have := h.x; omega) h.1 (Nat.le_of_ble_eq_true rfl) rfl (q_X6_ballastInHours (I := Ik) d h g hd ⟨by rw [hinv.2.2.1 3 (by omega)]; exact hT.1, hT.2.1, fun b hb => by rw [hinv.1 (j + 2) (by unfold z_hc; have := h.a; have := h.x; have := g.x; omega)]; exact hT.2.2 b hb⟩ (by rw [hinv.1 a (by unfold z_hc; have := h.a; have := h.x; have := g.x; omega)]; exact hs) hs4 (al := (z_ab le).toNatClampNeg) (by rw [e5]; exact (z_ab_rg hle).2) (z_ab_rg hle).1 e8 (by omega) (B := B) (by rw [hpl, z_bs_bv, e5, e8, hB le hr hle (by omega)]; exact (z_bv_only hinv.1 (by unfold z_hc; have := h.a; have := h.x; have := g.x; omega) (by unfold z_hc; have := h.a; have := h.x; have := g.x; omega) (by unfold z_hc; have := h.a; have := h.x; have := g.x; omega) (by unfold z_hc; have := h.a; have := h.x; have := g.x; omega) (by unfold z_hc; have := h.a; have := h.x; have := g.x; omega) c).symm) hinv.2.2.2.1 hinv.2.2.2.2) eb_riok ?_
    rintro _ _ ⟨rfl, Ib, rfl, hIb⟩
    show eb_P _ _ 31 [(5, .int w), (4, .int (nI k)), (3, .int (z_hts (z_wd I i m) (z_blB I a B) S k)), (0, .ref i), (1, .ref j), (2, .int (nI N))] (.int (B (z_pl Ik a (z_ab le).toNatClampNeg hr)) :: [.int le, .ref j]) (n, sl, kd, Ib, L, Rf) _
    refine ep_topE (y := bal) (by rw [hbal, hpl]; rfl) ?_
    refine ep_iload (i := 5) dX6_letHoursGo_31 rfl ?_
    refine ep_aload_n (i := 1) dX6_letHoursGo_33 rfl rfl ?_
    refine ep_getI dX6_letHoursGo_34 flX6_116 g.i0 g.1 ?_
    refine ep_topE (y := sa) (by rw [hIb.1 j (by have := h.a; have := h.x; have := g.x; omega)]; exact e4) ?_
    refine ep_callS (M1 := mX10_pullOf) (rest := [.int le, .ref j]) dX6_letHoursGo_37 mlX6_119 msX10_pullOf rfl (Nat.le_of_ble_eq_true rfl) rfl (q_X10_pullOf (d + 3) bal w sa _) eb_rok ?_
    rintro _ _ ⟨rfl, rfl⟩
    show eb_P _ _ 40 [(5, .int w), (4, .int (nI k)), (3, .int (z_hts (z_wd I i m) (z_blB I a B) S k)), (0, .ref i), (1, .ref j), (2, .int (nI N))] (.int (z_pull bal w sa) :: [.int le, .ref j]) _ _
    refine ep_callS (M1 := mX10_leanBy) (rest := [.ref j]) dX6_letHoursGo_40 mlX6_122 msX10_leanBy rfl (Nat.le_of_ble_eq_true rfl) rfl (q_X10_leanBy (d + 3) le (z_pull bal w sa)) eb_rok ?_
    rintro _ _ ⟨rfl, rfl⟩
    show eb_P _ _ 43 [(5, .int w), (4, .int (nI k)), (3, .int (z_hts (z_wd I i m) (z_blB I a B) S k)), (0, .ref i), (1, .ref j), (2, .int (nI N))] (.int (z_lb le (z_pull bal w sa)) :: [.ref j]) _ _
    refine ep_topE (y := l1) hl1.symm ?_
    refine ep_pI dX6_letHoursGo_43 plX6_79 g.i0 (by have := g.x; omega) g.1 rfl rfl ?_
    refine ep_nmI (fun I2 hI2 => ?_)
    refine ep_iload (i := 5) dX6_letHoursGo_46 rfl ?_
    refine ep_aload_n (i := 1) dX6_letHoursGo_48 rfl rfl ?_
    refine ep_getI dX6_letHoursGo_49 flX6_116 g.i0 g.1 ?_
    refine ep_topE (y := sa) (by simp [hI2, z_set]; rw [hIb.1 j (by have := h.a; have := h.x; have := g.x; omega)]; exact e4) ?_
    refine ep_imul dX6_letHoursGo_52 ?_
    refine ep_abs dX6_letHoursGo_53 xmX6_74 (Nat.le_of_ble_eq_true rfl) ?_
    refine ep_topE (y := z_ab (w * sa)) rfl ?_
    refine ep_iconst (v := 3) dX6_letHoursGo_56 (by decide) ?_
    refine ep_idiv dX6_letHoursGo_57 (by decide) ?_
    refine ep_aload_n (i := 1) dX6_letHoursGo_58 rfl rfl ?_
    refine ep_getI dX6_letHoursGo_59 flX6_79 g.i0 g.1 ?_
    refine ep_topE (y := l1) (by simp [hI2, z_set]) ?_
    refine ep_abs dX6_letHoursGo_62 xmX6_74 (Nat.le_of_ble_eq_true rfl) ?_
    refine ep_topE (y := z_ab l1) rfl ?_
    refine ep_iconst (v := 2) dX6_letHoursGo_65 (by decide) ?_
    refine ep_idiv dX6_letHoursGo_66 (by decide) ?_
    refine ep_isub dX6_letHoursGo_67 ?_
    refine ep_topE (y := md) hmd.symm ?_
    refine ep_istore (l' := [(6, .int md), (5, .int w), (4, .int (nI k)), (3, .int (z_hts (z_wd I i m) (z_blB I a B) S k)), (0, .ref i), (1, .ref j), (2, .int (nI N))]) dX6_letHoursGo_68 (by decide) rfl ?_
    refine ep_aload_n (i := 1) dX6_letHoursGo_70 rfl rfl ?_
    refine ep_aload_n (i := 1) dX6_letHoursGo_71 rfl rfl ?_
    refine ep_getI dX6_letHoursGo_72 flX6_126 g.i0 g.1 ?_
    refine ep_topE (y := lg) (by simp [hI2, z_set]; rw [hIb.1 j (by have := h.a; have := h.x; have := g.x; omega)]; exact e6) ?_
    refine ep_iload (i := 6) dX6_letHoursGo_75 rfl ?_
    refine ep_iconst (v := 0) dX6_letHoursGo_77 (by decide) ?_
    refine ep_max dX6_letHoursGo_78 xmX6_129 (Nat.le_of_ble_eq_true rfl) ?_
    refine ep_topE (y := z_mx md 0) rfl ?_
    refine ep_iadd dX6_letHoursGo_81 ?_
    refine ep_sipush (v := 9999) dX6_letHoursGo_82 (by decide) ?_
    refine ep_min dX6_letHoursGo_85 xmX6_132 (Nat.le_of_ble_eq_true rfl) ?_
    refine ep_topE (y := z_mn (lg + z_mx md 0) 9999) rfl ?_
    refine ep_pI dX6_letHoursGo_88 plX6_126 g.i0 (by have := g.x; omega) g.1 rfl rfl ?_
    refine ep_nmI (fun I3 hI3 => ?_)
    refine ep_aload_n (i := 1) dX6_letHoursGo_91 rfl rfl ?_
    refine ep_getI dX6_letHoursGo_92 flX6_79 g.i0 g.1 ?_
    refine ep_topE (y := l1) (by simp [hI2, hI3, z_set]) ?_
    refine ep_abs dX6_letHoursGo_95 xmX6_74 (Nat.le_of_ble_eq_true rfl) ?_
    refine ep_topE (y := z_ab l1) rfl ?_
    refine ep_bipush (v := 15) dX6_letHoursGo_98 (by decide) ?_
    refine ep_icmp_lt (tgt := 127) dX6_letHoursGo_100 (by decide) (fun c4 => ?_) (fun c4 => ?_)
    · skip
      refine ep_aload_n (i := 1) dX6_letHoursGo_127 rfl rfl ?_
      refine ep_dup dX6_letHoursGo_128 rfl ?_
      refine ep_getI dX6_letHoursGo_129 flX6_82 g.i0 g.1 ?_
      refine ep_topE (y := nI hr) (by simp [hI2, hI3, z_set]; rw [hIb.1 j (by have := h.a; have := h.x; have := g.x; omega)]; exact e8) ?_
      refine ep_iconst (v := 1) dX6_letHoursGo_132 (by decide) ?_
      refine ep_iadd dX6_letHoursGo_133 ?_
      refine ep_topE (y := nI (hr + 1)) (nI_1 _) ?_
      refine ep_pI dX6_letHoursGo_134 plX6_82 g.i0 (by have := g.x; omega) g.1 rfl rfl ?_
      refine ep_nmI (fun I5 hI5 => ?_)
      refine ep_iinc (v := (nI (k + 1))) (l' := [(4, .int ((nI (k + 1)))), (6, .int md), (5, .int w), (3, .int (z_hts (z_wd I i m) (z_blB I a B) S k)), (0, .ref i), (1, .ref j), (2, .int (nI N))]) dX6_letHoursGo_137 rfl (nI_1 _) (by decide) rfl ?_
      refine ep_goto (tgt := 5) dX6_letHoursGo_140 (by decide) ?_
      refine ep_sub (l' := [(4, .int ((nI (k + 1)))), (3, .int (z_hts (z_wd I i m) (z_blB I a B) S k)), (0, .ref i), (1, .ref j), (2, .int (nI N))]) [0, 3, 4, 5, 6] rfl ?_
      have ht : z_ht (z_wd I i m) (z_blB I a B) (z_hs (z_wd I i m) (z_blB I a B) S k) = 0 := by rw [hT1, z_ht]; show (if z_ab (z_hl _ _ _) < 15 then (0 : Int32) else 1) = _; rw [hl2]; exact if_pos (by assumption)
      refine ep_eq (l2 := [(4, .int (nI (k + 1))), (3, .int (z_hts (z_wd I i m) (z_blB I a B) S (k + 1))), (0, .ref i), (1, .ref j), (2, .int (nI N))]) rfl (by rw [z_hts, ht]; rw [Int32.add_zero]) rfl rfl (ih I5 ⟨?_, ?_, ?_, ?_, ?_⟩)
      · intro b hb; have hb1 : b ≠ j := fun e => hb (by unfold z_hc; omega)
        rw [hI5, z_set_ne hb1, hI3, z_set_ne hb1, hI2, z_set_ne hb1, hIb.1 b (fun e => hb (by unfold z_hc; omega))]; exact hinv.1 b hb
      · rw [z_hs, hT1, z_h, hl2, if_pos (by assumption)]
        refine ⟨?_, ?_, ?_, ?_, ?_⟩ <;> (simp [hI2, hI3, hI5, z_set, z_hg, hl2]) <;> (try rw [hIb.1 j (by have := h.a; have := h.x; have := g.x; omega)]) <;> first | assumption | (rw [hmd, hw]; done) | (rw [hmd]; rfl) | rfl
      · intro q hq; have q4 : ¬ q = 4 := (by omega); have q5 : ¬ q = 5 := (by omega); have q6 : ¬ q = 6 := (by omega); have q7 : ¬ q = 7 := (by omega); have q8 : ¬ q = 8 := (by omega)
        simp [hI2, hI3, hI5, z_set, q4, q5, q6, q7, q8]; rw [hIb.1 j (by have := h.a; have := h.x; have := g.x; omega)]; exact hinv.2.2.1 q hq
      · intro q hq1 hq2; rw [show I5 (i + 14) = Ib (i + 14) from by rw [hI5, z_set_ne (by omega), hI3, z_set_ne (by omega), hI2, z_set_ne (by omega)]]; refine hIb.2.1 q hq1 ?_; rw [show I5 (i + 15) = Ib (i + 15) from by rw [hI5, z_set_ne (by omega), hI3, z_set_ne (by omega), hI2, z_set_ne (by omega)], show I5 i = Ib i from by rw [hI5, z_set_ne (by omega), hI3, z_set_ne (by omega), hI2, z_set_ne (by omega)]] at hq2; exact hq2
      · refine ⟨by rw [show I5 i = Ib i from by rw [hI5, z_set_ne (by omega), hI3, z_set_ne (by omega), hI2, z_set_ne (by omega)]]; exact hIb.2.2.1, fun q hq1 => ?_⟩; rw [show I5 (i + 15) = Ib (i + 15) from by rw [hI5, z_set_ne (by omega), hI3, z_set_ne (by omega), hI2, z_set_ne (by omega)]]; exact hIb.2.2.2 q hq1
    · skip
      refine ep_aload_n (i := 1) dX6_letHoursGo_103 rfl rfl ?_
      refine ep_aload_n (i := 1) dX6_letHoursGo_104 rfl rfl ?_
      refine ep_getI dX6_letHoursGo_105 flX6_135 g.i0 g.1 ?_
      refine ep_topE (y := ov) (by simp [hI2, hI3, z_set]; rw [hIb.1 j (by have := h.a; have := h.x; have := g.x; omega)]; exact e7) ?_
      refine ep_iconst (v := 1) dX6_letHoursGo_108 (by decide) ?_
      refine ep_iadd dX6_letHoursGo_109 ?_
      refine ep_sipush (v := 999) dX6_letHoursGo_110 (by decide) ?_
      refine ep_min dX6_letHoursGo_113 xmX6_132 (Nat.le_of_ble_eq_true rfl) ?_
      refine ep_topE (y := z_mn (ov + 1) 999) rfl ?_
      refine ep_pI dX6_letHoursGo_116 plX6_135 g.i0 (by have := g.x; omega) g.1 rfl rfl ?_
      refine ep_nmI (fun I6 hI6 => ?_)
      refine ep_aload_n (i := 1) dX6_letHoursGo_119 rfl rfl ?_
      refine ep_iconst (v := 0) dX6_letHoursGo_120 (by decide) ?_
      refine ep_pI dX6_letHoursGo_121 plX6_116 g.i0 (by have := g.x; omega) g.1 rfl rfl ?_
      refine ep_nmI (fun I7 hI7 => ?_)
      refine ep_iinc (v := (z_hts (z_wd I i m) (z_blB I a B) S k + 1)) (l' := [(3, .int ((z_hts (z_wd I i m) (z_blB I a B) S k + 1))), (6, .int md), (5, .int w), (4, .int (nI k)), (0, .ref i), (1, .ref j), (2, .int (nI N))]) dX6_letHoursGo_124 rfl rfl (by decide) rfl ?_
      refine ep_aload_n (i := 1) dX6_letHoursGo_127 rfl rfl ?_
      refine ep_dup dX6_letHoursGo_128 rfl ?_
      refine ep_getI dX6_letHoursGo_129 flX6_82 g.i0 g.1 ?_
      refine ep_topE (y := nI hr) (by simp [hI2, hI3, hI6, hI7, z_set]; rw [hIb.1 j (by have := h.a; have := h.x; have := g.x; omega)]; exact e8) ?_
      refine ep_iconst (v := 1) dX6_letHoursGo_132 (by decide) ?_
      refine ep_iadd dX6_letHoursGo_133 ?_
      refine ep_topE (y := nI (hr + 1)) (nI_1 _) ?_
      refine ep_pI dX6_letHoursGo_134 plX6_82 g.i0 (by have := g.x; omega) g.1 rfl rfl ?_
      refine ep_nmI (fun I8 hI8 => ?_)
      refine ep_iinc (v := (nI (k + 1))) (l' := [(4, .int ((nI (k + 1)))), (3, .int ((z_hts (z_wd I i m) (z_blB I a B) S k + 1))), (6, .int md), (5, .int w), (0, .ref i), (1, .ref j), (2, .int (nI N))]) dX6_letHoursGo_137 rfl (nI_1 _) (by decide) rfl ?_
      refine ep_goto (tgt := 5) dX6_letHoursGo_140 (by decide) ?_
      refine ep_sub (l' := [(4, .int ((nI (k + 1)))), (3, .int ((z_hts (z_wd I i m) (z_blB I a B) S k + 1))), (0, .ref i), (1, .ref j), (2, .int (nI N))]) [0, 1, 4, 5, 6] rfl ?_
      have ht : z_ht (z_wd I i m) (z_blB I a B) (z_hs (z_wd I i m) (z_blB I a B) S k) = 1 := by rw [hT1, z_ht]; show (if z_ab (z_hl _ _ _) < 15 then (0 : Int32) else 1) = _; rw [hl2]; exact if_neg (by assumption)
      refine ep_eq (l2 := [(4, .int (nI (k + 1))), (3, .int (z_hts (z_wd I i m) (z_blB I a B) S (k + 1))), (0, .ref i), (1, .ref j), (2, .int (nI N))]) rfl (by rw [z_hts, ht]) rfl rfl (ih I8 ⟨?_, ?_, ?_, ?_, ?_⟩)
      · intro b hb; have hb1 : b ≠ j := fun e => hb (by unfold z_hc; omega)
        rw [hI8, z_set_ne hb1, hI7, z_set_ne hb1, hI6, z_set_ne hb1, hI3, z_set_ne hb1, hI2, z_set_ne hb1, hIb.1 b (fun e => hb (by unfold z_hc; omega))]; exact hinv.1 b hb
      · rw [z_hs, hT1, z_h, hl2, if_neg (by assumption)]
        refine ⟨?_, ?_, ?_, ?_, ?_⟩ <;> (simp [hI2, hI3, hI6, hI7, hI8, z_set, z_hg, hl2]) <;> (try rw [hIb.1 j (by have := h.a; have := h.x; have := g.x; omega)]) <;> first | assumption | (rw [hmd, hw]; done) | (rw [hmd]; rfl) | rfl
      · intro q hq; have q4 : ¬ q = 4 := (by omega); have q5 : ¬ q = 5 := (by omega); have q6 : ¬ q = 6 := (by omega); have q7 : ¬ q = 7 := (by omega); have q8 : ¬ q = 8 := (by omega)
        simp [hI2, hI3, hI6, hI7, hI8, z_set, q4, q5, q6, q7, q8]; rw [hIb.1 j (by have := h.a; have := h.x; have := g.x; omega)]; exact hinv.2.2.1 q hq
      · intro q hq1 hq2; rw [show I8 (i + 14) = Ib (i + 14) from by rw [hI8, z_set_ne (by omega), hI7, z_set_ne (by omega), hI6, z_set_ne (by omega), hI3, z_set_ne (by omega), hI2, z_set_ne (by omega)]]; refine hIb.2.1 q hq1 ?_; rw [show I8 (i + 15) = Ib (i + 15) from by rw [hI8, z_set_ne (by omega), hI7, z_set_ne (by omega), hI6, z_set_ne (by omega), hI3, z_set_ne (by omega), hI2, z_set_ne (by omega)], show I8 i = Ib i from by rw [hI8, z_set_ne (by omega), hI7, z_set_ne (by omega), hI6, z_set_ne (by omega), hI3, z_set_ne (by omega), hI2, z_set_ne (by omega)]] at hq2; exact hq2
      · refine ⟨by rw [show I8 i = Ib i from by rw [hI8, z_set_ne (by omega), hI7, z_set_ne (by omega), hI6, z_set_ne (by omega), hI3, z_set_ne (by omega), hI2, z_set_ne (by omega)]]; exact hIb.2.2.1, fun q hq1 => ?_⟩; rw [show I8 (i + 15) = Ib (i + 15) from by rw [hI8, z_set_ne (by omega), hI7, z_set_ne (by omega), hI6, z_set_ne (by omega), hI3, z_set_ne (by omega), hI2, z_set_ne (by omega)]]; exact hIb.2.2.2 q hq1
  · intro Ik hinv
    show eb_P _ _ 5 [(4, .int (nI N)), (3, .int (z_hts (z_wd I i m) (z_blB I a B) S N)), (0, .ref i), (1, .ref j), (2, .int (nI N))] [] (n, sl, kd, Ik, L, Rf) _
    refine ep_iload (i := 4) dX6_letHoursGo_5 rfl ?_
    refine ep_iload_n (i := 2) dX6_letHoursGo_7 rfl rfl ?_
    refine ep_icmp_ge (tgt := 143) dX6_letHoursGo_8 (by decide) (fun c9 => ?_) (fun c9 => absurd (nI_le (Nat.le_refl _) (by omega)) c9)
    refine ep_iload_n (i := 3) dX6_letHoursGo_143 rfl rfl ?_
    refine ep_iret dX6_letHoursGo_144 rfl rfl ?_
    exact ⟨rfl, _, rfl, hinv⟩
