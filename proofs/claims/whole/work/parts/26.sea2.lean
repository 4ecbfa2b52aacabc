/-! Sea: weight, ballast -/
/-- the weight of brother b of the ship j -/
def z_wb (I : Nat → Nat → Int32) (i a s0 j c b : Nat) : Int32 := z_wa (I (a + 1)) s0 (I (j + 1) b) (I (i + 1) (I (j + 2) b).toNatClampNeg) (z_cnt (I (j + 2)) (I (j + 2) b) c) (I (j + 3) b) (I j 5) (nI b) (I j 8)
/-- weight times place of the first k -/
def z_bs (I : Nat → Nat → Int32) (i a s0 j c : Nat) : Nat → Int32
  | 0 => 0
  | k + 1 => z_bs I i a s0 j c k + z_wb I i a s0 j c k * I (j + 3) k
def z_thk (I : Nat → Nat → Int32) (j c : Nat) : Prop := I j 3 = nI c ∧ c ≤ 7 ∧ ∀ b, b < c → ∃ t, t < 6 ∧ I (j + 2) b = nI t
/-- the memo holds B -/
def z_mm (I : Nat → Nat → Int32) (i : Nat) (B : Nat → Int32) : Prop := ∀ q, q < 147 → I (i + 15) q = I i 8 → I (i + 14) q = B q
def z_stb (I : Nat → Nat → Int32) (i st : Nat) : Prop := I i 8 = nI st ∧ ∀ q, q < 147 → ∃ v, v ≤ st ∧ I (i + 15) q = nI v
/-- the memo's place for a lean of size al and an hour hr -/
def z_pl (I : Nat → Nat → Int32) (a al hr : Nat) : Nat := (if I a 9 = 0 then 0 else al) * 7 + (if I a 10 = 0 then 0 else hr % 7)
theorem z_wb_only {P : Nat → Prop} {I I1 : Nat → Nat → Int32} {i a s0 j c b : Nat} (h : z_only P I I1) (h1 : ¬ P (a + 1)) (h2 : ¬ P (j + 1)) (h3 : ¬ P (i + 1)) (h4 : ¬ P (j + 2)) (h5 : ¬ P (j + 3)) (h6 : ¬ P j) : z_wb I1 i a s0 j c b = z_wb I i a s0 j c b := by
  unfold z_wb
  rw [h _ h1, h _ h2, h _ h3, h _ h4, h _ h5, h _ h6]
theorem q_X6_weight {n : Nat} {sl : Nat × Nat} {kd : Nat → Nat × Nat} {I : Nat → Nat → Int32} {L : Nat → Nat → Int64} {Rf : Nat → Nat → Option Nat} (d : Nat) {i a : Nat} (h : eb_sea n kd Rf i a) {j c : Nat} (g : eb_shp n kd Rf j) (hd : j + 4 ≤ i ∨ i + 16 ≤ j) (hT : z_thk I j c) {s0 : Nat} (hs : I a 4 = nI s0) (hs4 : s0 ≤ 40) {b : Nat} (hb : b < c) : eb_Q mX6_weight (d + 3) [.ref i, .ref j, .int (nI b)] (n, sl, kd, I, L, Rf) (eb_ri n sl kd L Rf (z_wb I i a s0 j c b) (z_only (fun c => c = i + 13 ∨ c = a + 3) I)) := by
  refine ep_meth pn_X.2.2.2.2.2.2.1 (Nat.le_of_ble_eq_true rfl) ?_
  show eb_P mX6_weight (d + 3) 0 [(0, .ref i), (1, .ref j), (2, .int (nI b))] [] (n, sl, kd, I, L, Rf) _
  obtain ⟨t, ht6, ht⟩ := hT.2.2 b hb
  refine ep_aload_n (i := 0) dX6_weight_0 rfl rfl ?_
  refine ep_aload_n (i := 1) dX6_weight_1 rfl rfl ?_
  refine ep_iload_n (i := 2) dX6_weight_2 rfl rfl ?_
  refine ep_aload_n (i := 1) dX6_weight_3 rfl rfl ?_
  refine ep_getR dX6_weight_4 flX6_53 g.i0 g.1 g.2.2.2.2.2.1 ?_
  refine ep_iload_n (i := 2) dX6_weight_7 rfl rfl ?_
  refine ep_iaN (k := b) dX6_weight_8 g.i2 g.2.2.1 (by have := hT.2.1; omega) (by decide) ?_
  refine ep_topE (y := nI t) ht ?_
  refine ep_aload_n (i := 1) dX6_weight_9 rfl rfl ?_
  refine ep_iload_n (i := 2) dX6_weight_10 rfl rfl ?_
  refine ep_callV (M1 := mX7_othersLike) (rest := [.int (nI t), .int (nI b), .ref j, .ref i]) dX6_weight_11 mlX6_58 mvX7_othersLike rfl g.i0 g.1 (Nat.le_of_ble_eq_true rfl) rfl (q_X7_othersLike (d + 2) g hT.1 hT.2.1 (by have := hT.2.1; omega)) eb_rok ?_
  rintro _ _ ⟨rfl, rfl⟩
  show eb_P _ _ 14 [(0, .ref i), (1, .ref j), (2, .int (nI b))] (.int (z_cnt (I (j + 2)) (I (j + 2) b) c) :: [.int (nI t), .int (nI b), .ref j, .ref i]) _ _
  refine ep_callV (M1 := mX6_weightAs) (rest := []) dX6_weight_14 mlX6_61 mvX6_weightAs rfl (by have := h.x; omega) h.1 (Nat.le_of_ble_eq_true rfl) rfl (q_X6_weightAs d h g hd (by have := hT.2.1; omega) hs hs4 ht6 _) eb_riok ?_
  rintro _ _ ⟨rfl, Iw, rfl, hIw⟩
  show eb_P _ _ 17 [(0, .ref i), (1, .ref j), (2, .int (nI b))] (.int (z_wa (I (a + 1)) s0 (I (j + 1) b) (I (i + 1) t) (z_cnt (I (j + 2)) (I (j + 2) b) c) (I (j + 3) b) (I j 5) (nI b) (I j 8)) :: []) (n, sl, kd, Iw, L, Rf) _
  refine ep_iret dX6_weight_17 rfl rfl ?_
  exact ⟨by rw [z_wb, ht, nI_clamp (by omega)], _, rfl, hIw⟩
theorem z_put_nI {x m : Nat} (h : x < m + 1) (hm : m < 2147483648 := by decide) : z_put (nI x) 0 (nI m) = nI x := by
  rw [z_put, if_neg (nI_pos (by omega)), if_neg (fun g => absurd ((nI_ltI (by omega) (by omega)).mp g) (by omega))]
theorem q_X6_ballastInHours {n : Nat} {sl : Nat × Nat} {kd : Nat → Nat × Nat} {I : Nat → Nat → Int32} {L : Nat → Nat → Int64} {Rf : Nat → Nat → Option Nat} (d : Nat) {i a : Nat} (h : eb_sea n kd Rf i a) {j c : Nat} (g : eb_shp n kd Rf j) (hd : j + 4 ≤ i ∨ i + 16 ≤ j) (hT : z_thk I j c) {s0 : Nat} (hs : I a 4 = nI s0) (hs4 : s0 ≤ 40) {al hr st : Nat} (hal : z_ab (I j 5) = nI al) (hal2 : al ≤ 20) (hhr : I j 8 = nI hr) (hhr2 : hr < 2147483648) {B : Nat → Int32} (hB : B (z_pl I a al hr) = z_bs I i a s0 j c c) (hmm : z_mm I i B) (hst : z_stb I i st) : eb_Q mX6_ballastInHours (d + 4) [.ref i, .ref j] (n, sl, kd, I, L, Rf) (eb_ri n sl kd L Rf (B (z_pl I a al hr)) (fun I1 => z_only (fun c => c = i + 13 ∨ c = a + 3 ∨ c = i + 14 ∨ c = i + 15) I I1 ∧ z_mm I1 i B ∧ z_stb I1 i st)) := by
  refine ep_meth pn_X.2.2.2.2.2.2.1 (Nat.le_of_ble_eq_true rfl) ?_
  show eb_P mX6_ballastInHours (d + 4) 0 [(0, .ref i), (1, .ref j)] [] (n, sl, kd, I, L, Rf) _
  have hq : z_pl I a al hr < 147 := by unfold z_pl; have h7 := Nat.mod_lt hr (show 0 < 7 by decide); split <;> split <;> omega
  have J : ∀ x y : Nat, x * 7 + y = z_pl I a al hr → eb_P mX6_ballastInHours (d + 4) 44 [(3, .int (nI y)), (2, .int (nI x)), (0, .ref i), (1, .ref j)] [] (n, sl, kd, I, L, Rf) (eb_ri n sl kd L Rf (B (z_pl I a al hr)) (fun I1 => z_only (fun c => c = i + 13 ∨ c = a + 3 ∨ c = i + 14 ∨ c = i + 15) I I1 ∧ z_mm I1 i B ∧ z_stb I1 i st)) := by
    intro x y hxy
    refine ep_iload_n (i := 2) dX6_ballastInHours_44 rfl rfl ?_
    refine ep_bipush (v := 7) dX6_ballastInHours_45 (by decide) ?_
    refine ep_imul dX6_ballastInHours_47 ?_
    refine ep_topE (y := nI (x * 7)) (pk_mul x 7) ?_
    refine ep_iload_n (i := 3) dX6_ballastInHours_48 rfl rfl ?_
    refine ep_iadd dX6_ballastInHours_49 ?_
    refine ep_topE (y := nI (x * 7 + y)) (nI_add _ _) ?_
    refine ep_iconst (v := 0) dX6_ballastInHours_50 (by decide) ?_
    refine ep_aload_n (i := 0) dX6_ballastInHours_51 rfl rfl ?_
    refine ep_getR dX6_ballastInHours_52 flX6_38 (by have := h.x; omega) h.1 h.2.2.2.2.2.2.2.2.2.2.2.1 ?_
    refine ep_alen (v := 147) dX6_ballastInHours_55 (by have := h.x; omega) h.2.2.2.2.2.1 (by decide) (by decide) ?_
    refine ep_iconst (v := 1) dX6_ballastInHours_56 (by decide) ?_
    refine ep_isub dX6_ballastInHours_57 ?_
    refine ep_topE (y := 146) (by decide) ?_
    refine ep_callS (M1 := mX10_putTo) (rest := []) dX6_ballastInHours_58 mlX6_89 msX10_putTo rfl (Nat.le_of_ble_eq_true rfl) rfl (q_X10_putTo (d + 3) (nI (x * 7 + y)) 0 146 _) eb_rok ?_
    rintro _ _ ⟨rfl, rfl⟩
    show eb_P _ _ 61 [(3, .int (nI y)), (2, .int (nI x)), (0, .ref i), (1, .ref j)] (.int (z_put (nI (x * 7 + y)) 0 146) :: []) _ _
    refine ep_topE (y := nI (z_pl I a al hr)) (show z_put (nI (x * 7 + y)) 0 (nI 146) = _ from by rw [z_put_nI (by rw [hxy]; exact hq), hxy]) ?_
    refine ep_istore (l' := [(4, .int (nI (z_pl I a al hr))), (3, .int (nI y)), (2, .int (nI x)), (0, .ref i), (1, .ref j)]) dX6_ballastInHours_61 (by decide) rfl ?_
    refine ep_aload_n (i := 0) dX6_ballastInHours_63 rfl rfl ?_
    refine ep_getR dX6_ballastInHours_64 flX6_38 (by have := h.x; omega) h.1 h.2.2.2.2.2.2.2.2.2.2.2.1 ?_
    refine ep_iload (i := 4) dX6_ballastInHours_67 rfl ?_
    refine ep_iaN (k := (z_pl I a al hr)) dX6_ballastInHours_69 (by have := h.x; omega) h.2.2.2.2.2.1 hq (by decide) ?_
    refine ep_aload_n (i := 0) dX6_ballastInHours_70 rfl rfl ?_
    refine ep_getI dX6_ballastInHours_71 flX6_100 (by have := h.x; omega) h.1 ?_
    refine ep_icmp_eq (tgt := 151) dX6_ballastInHours_74 (by decide) (fun c1 => ?_) (fun c1 => ?_)
    · skip
      refine ep_aload_n (i := 0) dX6_ballastInHours_151 rfl rfl ?_
      refine ep_getR dX6_ballastInHours_152 flX6_35 (by have := h.x; omega) h.1 h.2.2.2.2.2.2.2.2.2.2.1 ?_
      refine ep_iload (i := 4) dX6_ballastInHours_155 rfl ?_
      refine ep_iaN (k := (z_pl I a al hr)) dX6_ballastInHours_157 (by have := h.x; omega) h.2.2.2.2.1 hq (by decide) ?_
      refine ep_iret dX6_ballastInHours_158 rfl rfl ?_
      exact ⟨by rw [hmm _ hq (by assumption)], _, rfl, fun _ _ => rfl, hmm, hst⟩
    · skip
      refine ep_iconst (v := 0) dX6_ballastInHours_77 (by decide) ?_
      refine ep_istore (l' := [(5, .int 0), (4, .int (nI (z_pl I a al hr))), (3, .int (nI y)), (2, .int (nI x)), (0, .ref i), (1, .ref j)]) dX6_ballastInHours_78 (by decide) rfl ?_
      refine ep_iconst (v := 0) dX6_ballastInHours_80 (by decide) ?_
      refine ep_istore (l' := [(6, .int 0), (5, .int 0), (4, .int (nI (z_pl I a al hr))), (3, .int (nI y)), (2, .int (nI x)), (0, .ref i), (1, .ref j)]) dX6_ballastInHours_81 (by decide) rfl ?_
      refine ep_eq (l2 := [(6, .int (nI 0)), (5, .int (z_bs I i a s0 j c 0)), (4, .int (nI (z_pl I a al hr))), (3, .int (nI y)), (2, .int (nI x)), (0, .ref i), (1, .ref j)]) rfl (by rw [nI_0]; rfl) rfl rfl ?_
      refine ep_for c (fun k (Ik : Nat → Nat → Int32) => ([(6, .int (nI k)), (5, .int (z_bs I i a s0 j c k)), (4, .int (nI (z_pl I a al hr))), (3, .int (nI y)), (2, .int (nI x)), (0, .ref i), (1, .ref j)], (n, sl, kd, Ik, L, Rf))) (fun k Ik => z_only (fun c => c = i + 13 ∨ c = a + 3) I Ik) ?_ ?_ c 0 I (by omega) (fun _ _ => rfl)
      · intro k Ik hk hinv ih
        obtain ⟨t, ht6, ht⟩ := hT.2.2 k hk
        show eb_P _ _ 83 [(6, .int (nI k)), (5, .int (z_bs I i a s0 j c k)), (4, .int (nI (z_pl I a al hr))), (3, .int (nI y)), (2, .int (nI x)), (0, .ref i), (1, .ref j)] [] (n, sl, kd, Ik, L, Rf) _
        refine ep_iload (i := 6) dX6_ballastInHours_83 rfl ?_
        refine ep_aload_n (i := 1) dX6_ballastInHours_85 rfl rfl ?_
        refine ep_getI dX6_ballastInHours_86 flX6_110 g.i0 g.1 ?_
        refine ep_topE (y := nI c) (by rw [hinv j (by have := h.a; have := h.x; have := g.x; omega)]; exact hT.1) ?_
        refine ep_icmp_ge (tgt := 131) dX6_ballastInHours_89 (by decide) (fun c2 => absurd c2 (nI_ge hk (by have := hT.2.1; omega))) (fun c2 => ?_)
        refine ep_iload (i := 5) dX6_ballastInHours_92 rfl ?_
        refine ep_aload_n (i := 0) dX6_ballastInHours_94 rfl rfl ?_
        refine ep_aload_n (i := 1) dX6_ballastInHours_95 rfl rfl ?_
        refine ep_iload (i := 6) dX6_ballastInHours_96 rfl ?_
        refine ep_aload_n (i := 1) dX6_ballastInHours_98 rfl rfl ?_
        refine ep_getR dX6_ballastInHours_99 flX6_53 g.i0 g.1 g.2.2.2.2.2.1 ?_
        refine ep_iload (i := 6) dX6_ballastInHours_102 rfl ?_
        refine ep_iaN (k := k) dX6_ballastInHours_104 g.i2 g.2.2.1 (by have := hT.2.1; omega) (by decide) ?_
        refine ep_topE (y := nI t) (by rw [hinv (j + 2) (by have := h.a; have := h.x; have := g.x; omega)]; exact ht) ?_
        refine ep_aload_n (i := 1) dX6_ballastInHours_105 rfl rfl ?_
        refine ep_iload (i := 6) dX6_ballastInHours_106 rfl ?_
        refine ep_callV (M1 := mX7_othersLike) (rest := [.int (nI t), .int (nI k), .ref j, .ref i, .int (z_bs I i a s0 j c k)]) dX6_ballastInHours_108 mlX6_58 mvX7_othersLike rfl g.i0 g.1 (Nat.le_of_ble_eq_true rfl) rfl (q_X7_othersLike (I := Ik) (d + 3) g (by rw [hinv j (by have := h.a; have := h.x; have := g.x; omega)]; exact hT.1) hT.2.1 (by have := hT.2.1; omega)) eb_rok ?_
        rintro _ _ ⟨rfl, rfl⟩
        show eb_P _ _ 111 [(6, .int (nI k)), (5, .int (z_bs I i a s0 j c k)), (4, .int (nI (z_pl I a al hr))), (3, .int (nI y)), (2, .int (nI x)), (0, .ref i), (1, .ref j)] (.int (z_cnt (Ik (j + 2)) (Ik (j + 2) k) c) :: [.int (nI t), .int (nI k), .ref j, .ref i, .int (z_bs I i a s0 j c k)]) _ _
        refine ep_callV (M1 := mX6_weightAs) (rest := [.int (z_bs I i a s0 j c k)]) dX6_ballastInHours_111 mlX6_61 mvX6_weightAs rfl (by have := h.x; omega) h.1 (Nat.le_of_ble_eq_true rfl) rfl (q_X6_weightAs (I := Ik) (d + 1) h g hd (by have := hT.2.1; omega) (by rw [hinv a (by have := h.a; have := h.x; have := g.x; omega)]; exact hs) hs4 ht6 _) eb_riok ?_
        rintro _ _ ⟨rfl, Iw, rfl, hIw⟩
        show eb_P _ _ 114 [(6, .int (nI k)), (5, .int (z_bs I i a s0 j c k)), (4, .int (nI (z_pl I a al hr))), (3, .int (nI y)), (2, .int (nI x)), (0, .ref i), (1, .ref j)] (.int (z_wa (Ik (a + 1)) s0 (Ik (j + 1) k) (Ik (i + 1) t) (z_cnt (Ik (j + 2)) (Ik (j + 2) k) c) (Ik (j + 3) k) (Ik j 5) (nI k) (Ik j 8)) :: [.int (z_bs I i a s0 j c k)]) (n, sl, kd, Iw, L, Rf) _
        refine ep_topE (y := z_wb I i a s0 j c k) (by rw [z_wb, ht, nI_clamp (by omega), hinv (a + 1) (by have := h.a; have := h.x; have := g.x; omega), hinv (j + 1) (by have := h.a; have := h.x; have := g.x; omega), hinv (i + 1) (by have := h.a; have := h.x; have := g.x; omega), hinv (j + 2) (by have := h.a; have := h.x; have := g.x; omega), hinv (j + 3) (by have := h.a; have := h.x; have := g.x; omega), hinv j (by have := h.a; have := h.x; have := g.x; omega), ht]) ?_
        refine ep_aload_n (i := 1) dX6_ballastInHours_114 rfl rfl ?_
        refine ep_getR dX6_ballastInHours_115 flX6_71 g.i0 g.1 g.2.2.2.2.2.2.1 ?_
        refine ep_iload (i := 6) dX6_ballastInHours_118 rfl ?_
        refine ep_iaN (k := k) dX6_ballastInHours_120 g.i3 g.2.2.2.1 (by have := hT.2.1; omega) (by decide) ?_
        refine ep_topE (y := I (j + 3) k) (by rw [hIw (j + 3) (by have := h.a; have := h.x; have := g.x; omega), hinv (j + 3) (by have := h.a; have := h.x; have := g.x; omega)]) ?_
        refine ep_imul dX6_ballastInHours_121 ?_
        refine ep_iadd dX6_ballastInHours_122 ?_
        refine ep_istore (l' := [(5, .int ((z_bs I i a s0 j c k) + ((z_wb I i a s0 j c k) * (I (j + 3) k)))), (6, .int (nI k)), (4, .int (nI (z_pl I a al hr))), (3, .int (nI y)), (2, .int (nI x)), (0, .ref i), (1, .ref j)]) dX6_ballastInHours_123 (by decide) rfl ?_
        refine ep_iinc (v := (nI (k + 1))) (l' := [(6, .int ((nI (k + 1)))), (5, .int ((z_bs I i a s0 j c k) + ((z_wb I i a s0 j c k) * (I (j + 3) k)))), (4, .int (nI (z_pl I a al hr))), (3, .int (nI y)), (2, .int (nI x)), (0, .ref i), (1, .ref j)]) dX6_ballastInHours_125 rfl (nI_1 _) (by decide) rfl ?_
        refine ep_goto (tgt := 83) dX6_ballastInHours_128 (by decide) ?_
        exact ih Iw (z_only.tr hinv hIw)
      · intro Ik hinv
        show eb_P _ _ 83 [(6, .int (nI c)), (5, .int (z_bs I i a s0 j c c)), (4, .int (nI (z_pl I a al hr))), (3, .int (nI y)), (2, .int (nI x)), (0, .ref i), (1, .ref j)] [] (n, sl, kd, Ik, L, Rf) _
        refine ep_iload (i := 6) dX6_ballastInHours_83 rfl ?_
        refine ep_aload_n (i := 1) dX6_ballastInHours_85 rfl rfl ?_
        refine ep_getI dX6_ballastInHours_86 flX6_110 g.i0 g.1 ?_
        refine ep_topE (y := nI c) (by rw [hinv j (by have := h.a; have := h.x; have := g.x; omega)]; exact hT.1) ?_
        refine ep_icmp_ge (tgt := 131) dX6_ballastInHours_89 (by decide) (fun c3 => ?_) (fun c3 => absurd (nI_le (Nat.le_refl _) (by have := hT.2.1; omega)) c3)
        refine ep_aload_n (i := 0) dX6_ballastInHours_131 rfl rfl ?_
        refine ep_getR dX6_ballastInHours_132 flX6_38 (by have := h.x; omega) h.1 h.2.2.2.2.2.2.2.2.2.2.2.1 ?_
        refine ep_iload (i := 4) dX6_ballastInHours_135 rfl ?_
        refine ep_aload_n (i := 0) dX6_ballastInHours_137 rfl rfl ?_
        refine ep_getI dX6_ballastInHours_138 flX6_100 (by have := h.x; omega) h.1 ?_
        refine ep_isN (k := (z_pl I a al hr)) dX6_ballastInHours_141 (by have := h.x; omega) (by have := h.x; omega) h.2.2.2.2.2.1 hq (by decide) ?_
        refine ep_nmI (fun I4 hI4 => ?_)
        refine ep_aload_n (i := 0) dX6_ballastInHours_142 rfl rfl ?_
        refine ep_getR dX6_ballastInHours_143 flX6_35 (by have := h.x; omega) h.1 h.2.2.2.2.2.2.2.2.2.2.1 ?_
        refine ep_iload (i := 4) dX6_ballastInHours_146 rfl ?_
        refine ep_iload (i := 5) dX6_ballastInHours_148 rfl ?_
        refine ep_isN (k := (z_pl I a al hr)) dX6_ballastInHours_150 (by have := h.x; omega) (by have := h.x; omega) h.2.2.2.2.1 hq (by decide) ?_
        refine ep_nmI (fun I5 hI5 => ?_)
        refine ep_aload_n (i := 0) dX6_ballastInHours_151 rfl rfl ?_
        refine ep_getR dX6_ballastInHours_152 flX6_35 (by have := h.x; omega) h.1 h.2.2.2.2.2.2.2.2.2.2.1 ?_
        refine ep_iload (i := 4) dX6_ballastInHours_155 rfl ?_
        refine ep_iaN (k := (z_pl I a al hr)) dX6_ballastInHours_157 (by have := h.x; omega) h.2.2.2.2.1 hq (by decide) ?_
        refine ep_iret dX6_ballastInHours_158 rfl rfl ?_
        have eS : Ik i 8 = I i 8 := by rw [hinv i (by have := h.a; have := h.x; have := g.x; omega)]
        have e15 : Ik (i + 15) = I (i + 15) := hinv _ (by have := h.a; have := h.x; have := g.x; omega)
        have e14 : Ik (i + 14) = I (i + 14) := hinv _ (by have := h.a; have := h.x; have := g.x; omega)
        have f8 : I5 i 8 = I i 8 := by rw [hI5, z_set_ne (by have := h.a; have := h.x; have := g.x; omega), hI4, z_set_ne (by have := h.a; have := h.x; have := g.x; omega), eS]
        have f15 : ∀ q, I5 (i + 15) q = if q = z_pl I a al hr then I i 8 else I (i + 15) q := fun q => by rw [hI5, z_set_ne (by have := h.a; have := h.x; have := g.x; omega), hI4]; simp only [z_set]; rw [e15, eS]; simp
        have f14 : ∀ q, I5 (i + 14) q = if q = z_pl I a al hr then z_bs I i a s0 j c c else I (i + 14) q := fun q => by rw [hI5]; simp only [z_set]; rw [hI4, z_set_ne (by have := h.a; have := h.x; have := g.x; omega), e14]; simp
        refine ⟨by rw [f14, if_pos rfl, hB], _, rfl, ?_, ?_, ?_⟩
        · intro b hb2
          rw [hI5, z_set_ne (by omega), hI4, z_set_ne (by omega)]
          exact hinv b (by omega)
        · intro q hq3 hq4
          rw [f15, f8] at hq4
          rw [f14]
          by_cases e : q = z_pl I a al hr
          · rw [if_pos e, e, hB]
          · rw [if_neg e] at hq4 ⊢
            exact hmm q hq3 hq4
        · refine ⟨f8.trans hst.1, fun q hq3 => ?_⟩
          rw [f15]
          by_cases e : q = z_pl I a al hr
          · rw [if_pos e]; exact ⟨st, Nat.le_refl _, hst.1⟩
          · rw [if_neg e]; exact hst.2 q hq3
  refine ep_aload_n (i := 0) dX6_ballastInHours_0 rfl rfl ?_
  refine ep_getR dX6_ballastInHours_1 flX6_25 (by have := h.x; omega) h.1 h.2.2.2.2.2.2.2.2.1 ?_
  refine ep_getI dX6_ballastInHours_4 flX6_103 (by have := h.r.2.2.2.2.2.2.2.2.2.1; omega) h.r.1 ?_
  refine ep_if_eq (tgt := 20) dX6_ballastInHours_7 (by decide) (fun c6 => ?_) (fun c6 => ?_)
  · skip
    refine ep_iconst (v := 0) dX6_ballastInHours_20 (by decide) ?_
    refine ep_istore_n (l' := [(2, .int 0), (0, .ref i), (1, .ref j)]) dX6_ballastInHours_21 rfl (by decide) rfl ?_
    refine ep_aload_n (i := 0) dX6_ballastInHours_22 rfl rfl ?_
    refine ep_getR dX6_ballastInHours_23 flX6_25 (by have := h.x; omega) h.1 h.2.2.2.2.2.2.2.2.1 ?_
    refine ep_getI dX6_ballastInHours_26 flX6_107 (by have := h.r.2.2.2.2.2.2.2.2.2.1; omega) h.r.1 ?_
    refine ep_if_eq (tgt := 42) dX6_ballastInHours_29 (by decide) (fun c7 => ?_) (fun c7 => ?_)
    · skip
      refine ep_iconst (v := 0) dX6_ballastInHours_42 (by decide) ?_
      refine ep_istore_n (l' := [(3, .int 0), (2, .int 0), (0, .ref i), (1, .ref j)]) dX6_ballastInHours_43 rfl (by decide) rfl ?_
      refine ep_eq (l2 := [(3, .int (nI 0)), (2, .int (nI 0)), (0, .ref i), (1, .ref j)]) rfl (by first | rfl | rw [nI_0]) rfl rfl ?_
      exact J 0 0 (by rw [z_pl]; first | rw [if_pos (by assumption), if_pos (by assumption)] | rw [if_neg (by assumption), if_pos (by assumption)] | rw [if_pos (by assumption), if_neg (by assumption)] | rw [if_neg (by assumption), if_neg (by assumption)])
    · skip
      refine ep_aload_n (i := 1) dX6_ballastInHours_32 rfl rfl ?_
      refine ep_getI dX6_ballastInHours_33 flX6_82 g.i0 g.1 ?_
      refine ep_topE (y := nI hr) hhr ?_
      refine ep_bipush (v := 7) dX6_ballastInHours_36 (by decide) ?_
      refine ep_irem dX6_ballastInHours_38 (by decide) ?_
      refine ep_topE (y := nI (hr % 7)) (pk_rem (a := hr) (d := 7) (by omega) (by decide) (by decide)) ?_
      refine ep_goto (tgt := 43) dX6_ballastInHours_39 (by decide) ?_
      refine ep_istore_n (l' := [(3, .int (nI (hr % 7))), (2, .int 0), (0, .ref i), (1, .ref j)]) dX6_ballastInHours_43 rfl (by decide) rfl ?_
      refine ep_eq (l2 := [(3, .int (nI (hr % 7))), (2, .int (nI 0)), (0, .ref i), (1, .ref j)]) rfl (by first | rfl | rw [nI_0]) rfl rfl ?_
      exact J 0 (hr % 7) (by rw [z_pl]; first | rw [if_pos (by assumption), if_pos (by assumption)] | rw [if_neg (by assumption), if_pos (by assumption)] | rw [if_pos (by assumption), if_neg (by assumption)] | rw [if_neg (by assumption), if_neg (by assumption)])
  · skip
    refine ep_aload_n (i := 1) dX6_ballastInHours_10 rfl rfl ?_
    refine ep_getI dX6_ballastInHours_11 flX6_79 g.i0 g.1 ?_
    refine ep_abs dX6_ballastInHours_14 xmX6_74 (Nat.le_of_ble_eq_true rfl) ?_
    refine ep_topE (y := nI al) hal ?_
    refine ep_goto (tgt := 21) dX6_ballastInHours_17 (by decide) ?_
    refine ep_istore_n (l' := [(2, .int (nI al)), (0, .ref i), (1, .ref j)]) dX6_ballastInHours_21 rfl (by decide) rfl ?_
    refine ep_aload_n (i := 0) dX6_ballastInHours_22 rfl rfl ?_
    refine ep_getR dX6_ballastInHours_23 flX6_25 (by have := h.x; omega) h.1 h.2.2.2.2.2.2.2.2.1 ?_
    refine ep_getI dX6_ballastInHours_26 flX6_107 (by have := h.r.2.2.2.2.2.2.2.2.2.1; omega) h.r.1 ?_
    refine ep_if_eq (tgt := 42) dX6_ballastInHours_29 (by decide) (fun c8 => ?_) (fun c8 => ?_)
    · skip
      refine ep_iconst (v := 0) dX6_ballastInHours_42 (by decide) ?_
      refine ep_istore_n (l' := [(3, .int 0), (2, .int (nI al)), (0, .ref i), (1, .ref j)]) dX6_ballastInHours_43 rfl (by decide) rfl ?_
      refine ep_eq (l2 := [(3, .int (nI 0)), (2, .int (nI al)), (0, .ref i), (1, .ref j)]) rfl (by first | rfl | rw [nI_0]) rfl rfl ?_
      exact J al 0 (by rw [z_pl]; first | rw [if_pos (by assumption), if_pos (by assumption)] | rw [if_neg (by assumption), if_pos (by assumption)] | rw [if_pos (by assumption), if_neg (by assumption)] | rw [if_neg (by assumption), if_neg (by assumption)])
    · skip
      refine ep_aload_n (i := 1) dX6_ballastInHours_32 rfl rfl ?_
      refine ep_getI dX6_ballastInHours_33 flX6_82 g.i0 g.1 ?_
      refine ep_topE (y := nI hr) hhr ?_
      refine ep_bipush (v := 7) dX6_ballastInHours_36 (by decide) ?_
      refine ep_irem dX6_ballastInHours_38 (by decide) ?_
      refine ep_topE (y := nI (hr % 7)) (pk_rem (a := hr) (d := 7) (by omega) (by decide) (by decide)) ?_
      refine ep_goto (tgt := 43) dX6_ballastInHours_39 (by decide) ?_
      refine ep_istore_n (l' := [(3, .int (nI (hr % 7))), (2, .int (nI al)), (0, .ref i), (1, .ref j)]) dX6_ballastInHours_43 rfl (by decide) rfl ?_
      refine ep_eq (l2 := [(3, .int (nI (hr % 7))), (2, .int (nI al)), (0, .ref i), (1, .ref j)]) rfl (by first | rfl | rw [nI_0]) rfl rfl ?_
      exact J al (hr % 7) (by rw [z_pl]; first | rw [if_pos (by assumption), if_pos (by assumption)] | rw [if_neg (by assumption), if_pos (by assumption)] | rw [if_pos (by assumption), if_neg (by assumption)] | rw [if_neg (by assumption), if_neg (by assumption)])
