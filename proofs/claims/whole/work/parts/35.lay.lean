/-! where all lies: x 0, text 1, told 3, sea 5 (rules 8, 13), ship 21, guess 25, before 29, past 33 (ships 35 + 4 k), kept 83 (84, 88), holds 92, seen 93, rumours 97, luck 101, chances 102, pieces 105, loads 108, draws 109, pulls 110, loadsIfTold 111; the reference 112, its rows 113 .. 136; out 137 -/
def zkd : List (Nat × Nat) := [(10, 0), (9, 0), (20, 80), (4, 0), (23, 8), (6, 0), (20, 6), (20, 20), (5, 0), (20, 40), (20, 40), (20, 40), (22, 5), (5, 0), (20, 40), (20, 40), (20, 40), (22, 5), (20, 7), (20, 147), (20, 147), (7, 0), (20, 7), (20, 7), (20, 7), (7, 0), (20, 7), (20, 7), (20, 7), (7, 0), (20, 7), (20, 7), (20, 7), (2, 0), (24, 12), (7, 0), (20, 7), (20, 7), (20, 7), (7, 0), (20, 7), (20, 7), (20, 7), (7, 0), (20, 7), (20, 7), (20, 7), (7, 0), (20, 7), (20, 7), (20, 7), (7, 0), (20, 7), (20, 7), (20, 7), (7, 0), (20, 7), (20, 7), (20, 7), (7, 0), (20, 7), (20, 7), (20, 7), (7, 0), (20, 7), (20, 7), (20, 7), (7, 0), (20, 7), (20, 7), (20, 7), (7, 0), (20, 7), (20, 7), (20, 7), (7, 0), (20, 7), (20, 7), (20, 7), (7, 0), (20, 7), (20, 7), (20, 7), (24, 2), (7, 0), (20, 7), (20, 7), (20, 7), (7, 0), (20, 7), (20, 7), (20, 7), (22, 2), (8, 0), (20, 10), (20, 10), (20, 10), (8, 0), (20, 12), (20, 12), (20, 12), (1, 0), (0, 0), (20, 41), (20, 41), (3, 0), (22, 512), (20, 3), (20, 7), (20, 6), (20, 6), (20, 294), (11, 0), (20, 26), (20, 6), (20, 20), (21, 80), (23, 16), (20, 42), (21, 40), (21, 40), (20, 7), (20, 312), (20, 26), (20, 26), (20, 240), (20, 10), (20, 10), (20, 10), (20, 6), (20, 12), (20, 12), (22, 512), (20, 3), (20, 52), (22, 2), (20, 2), (23, 1)]
def zpt : List (Nat × Nat × Nat) := [(1, 0, 2), (0, 0, 1), (3, 0, 4), (0, 1, 3), (0, 2, 5), (5, 0, 6), (5, 1, 7), (8, 0, 9), (8, 1, 10), (8, 2, 11), (8, 3, 12), (13, 0, 14), (13, 1, 15), (13, 2, 16), (13, 3, 17), (5, 5, 18), (5, 6, 19), (5, 7, 20), (21, 0, 22), (21, 1, 23), (21, 2, 24), (0, 3, 21), (25, 0, 26), (25, 1, 27), (25, 2, 28), (0, 4, 25), (29, 0, 30), (29, 1, 31), (29, 2, 32), (0, 5, 29), (0, 6, 33), (33, 0, 34), (35, 0, 36), (35, 1, 37), (35, 2, 38), (34, 0, 35), (39, 0, 40), (39, 1, 41), (39, 2, 42), (34, 1, 39), (43, 0, 44), (43, 1, 45), (43, 2, 46), (34, 2, 43), (47, 0, 48), (47, 1, 49), (47, 2, 50), (34, 3, 47), (51, 0, 52), (51, 1, 53), (51, 2, 54), (34, 4, 51), (55, 0, 56), (55, 1, 57), (55, 2, 58), (34, 5, 55), (59, 0, 60), (59, 1, 61), (59, 2, 62), (34, 6, 59), (63, 0, 64), (63, 1, 65), (63, 2, 66), (34, 7, 63), (67, 0, 68), (67, 1, 69), (67, 2, 70), (34, 8, 67), (71, 0, 72), (71, 1, 73), (71, 2, 74), (34, 9, 71), (75, 0, 76), (75, 1, 77), (75, 2, 78), (34, 10, 75), (79, 0, 80), (79, 1, 81), (79, 2, 82), (34, 11, 79), (0, 7, 83), (84, 0, 85), (84, 1, 86), (84, 2, 87), (83, 0, 84), (88, 0, 89), (88, 1, 90), (88, 2, 91), (83, 1, 88), (0, 8, 92), (0, 9, 93), (93, 0, 94), (93, 1, 95), (93, 2, 96), (0, 10, 97), (97, 0, 98), (97, 1, 99), (97, 2, 100), (0, 11, 101), (0, 12, 102), (0, 13, 105), (105, 0, 106), (105, 1, 107), (0, 14, 108), (0, 15, 109), (0, 16, 110), (0, 17, 111), (112, 0, 113), (112, 2, 114), (112, 3, 115), (112, 5, 116), (112, 7, 117), (112, 15, 118), (112, 17, 120), (112, 20, 121), (112, 21, 122), (112, 23, 123), (112, 24, 124), (112, 26, 125), (112, 27, 126), (112, 28, 127), (112, 29, 128), (112, 31, 129), (112, 32, 130), (112, 33, 131), (112, 35, 132), (112, 36, 133), (112, 39, 134), (112, 40, 135), (112, 41, 136)]
def zsh : List Nat := [21, 25, 29, 35, 39, 43, 47, 51, 55, 59, 63, 67, 71, 75, 79, 84, 88]
def zF (n : Nat) (kd : Nat → Nat × Nat) (Rf : Nat → Nat → Option Nat) : Prop := 138 ≤ n ∧ n < 1000000 ∧ (∀ c, c < 138 → kd c = zkd.getD c (0, 0)) ∧ ∀ (k : Nat) (p : Nat × Nat × Nat), zpt[k]? = some p → Rf p.1 p.2.1 = some p.2.2
theorem zF.lt {n : Nat} {kd : Nat → Nat × Nat} {Rf : Nat → Nat → Option Nat} {c : Nat} (h : zF n kd Rf) (hc : c < 138) : c < n := Nat.lt_of_lt_of_le hc h.1
theorem zF.lx {n : Nat} {kd : Nat → Nat × Nat} {Rf : Nat → Nat → Option Nat} {c : Nat} (h : zF n kd Rf) (hc : c < 138) : c < 1000000 := Nat.lt_trans (h.lt hc) h.2.1
theorem zF.ka {n : Nat} {kd : Nat → Nat × Nat} {Rf : Nat → Nat → Option Nat} {c : Nat} {x : Nat × Nat} (h : zF n kd Rf) (hc : c < 138) (e : zkd.getD c (0, 0) = x) : kd c = x := (h.2.2.1 c hc).trans e
theorem zF.kc {n : Nat} {kd : Nat → Nat × Nat} {Rf : Nat → Nat → Option Nat} {c : Nat} {x : Nat} (h : zF n kd Rf) (hc : c < 138) (e : (zkd.getD c (0, 0)).1 = x) : (kd c).1 = x := by rw [h.2.2.1 c hc]; exact e
theorem zF.pt {n : Nat} {kd : Nat → Nat × Nat} {Rf : Nat → Nat → Option Nat} {a b c : Nat} (h : zF n kd Rf) (k : Nat) (e : zpt[k]? = some (a, b, c)) : Rf a b = some c := h.2.2.2 k _ e
theorem zpt_no : ∀ p ∈ zpt, ¬ (p.1 = 112 ∧ p.2.1 = 10) := by decide +kernel
theorem zF.tr {n : Nat} {kd : Nat → Nat × Nat} {Rf : Nat → Nat → Option Nat} {Rf' : Nat → Nat → Option Nat} (h : zF n kd Rf) (hR : ∀ c k, ¬ (c = 112 ∧ k = 10) → Rf' c k = Rf c k) : zF n kd Rf' := ⟨h.1, h.2.1, h.2.2.1, fun k p e => (hR _ _ (zpt_no p (List.mem_of_getElem? e))).trans (h.2.2.2 k p e)⟩
theorem zF.shp {n : Nat} {kd : Nat → Nat × Nat} {Rf : Nat → Nat → Option Nat} {i : Nat} (h : zF n kd Rf) (hi : i ∈ zsh) : eb_shp n kd Rf i := by
  have hn := h.1
  simp only [zsh, List.mem_cons, List.not_mem_nil, or_false] at hi
  rcases hi with rfl | rfl | rfl | rfl | rfl | rfl | rfl | rfl | rfl | rfl | rfl | rfl | rfl | rfl | rfl | rfl | rfl
  · exact ⟨h.kc (by decide) rfl, h.ka (by decide) rfl, h.ka (by decide) rfl, h.ka (by decide) rfl, h.pt 18 rfl, h.pt 19 rfl, h.pt 20 rfl, (by omega), h.2.1⟩
  · exact ⟨h.kc (by decide) rfl, h.ka (by decide) rfl, h.ka (by decide) rfl, h.ka (by decide) rfl, h.pt 22 rfl, h.pt 23 rfl, h.pt 24 rfl, (by omega), h.2.1⟩
  · exact ⟨h.kc (by decide) rfl, h.ka (by decide) rfl, h.ka (by decide) rfl, h.ka (by decide) rfl, h.pt 26 rfl, h.pt 27 rfl, h.pt 28 rfl, (by omega), h.2.1⟩
  · exact ⟨h.kc (by decide) rfl, h.ka (by decide) rfl, h.ka (by decide) rfl, h.ka (by decide) rfl, h.pt 32 rfl, h.pt 33 rfl, h.pt 34 rfl, (by omega), h.2.1⟩
  · exact ⟨h.kc (by decide) rfl, h.ka (by decide) rfl, h.ka (by decide) rfl, h.ka (by decide) rfl, h.pt 36 rfl, h.pt 37 rfl, h.pt 38 rfl, (by omega), h.2.1⟩
  · exact ⟨h.kc (by decide) rfl, h.ka (by decide) rfl, h.ka (by decide) rfl, h.ka (by decide) rfl, h.pt 40 rfl, h.pt 41 rfl, h.pt 42 rfl, (by omega), h.2.1⟩
  · exact ⟨h.kc (by decide) rfl, h.ka (by decide) rfl, h.ka (by decide) rfl, h.ka (by decide) rfl, h.pt 44 rfl, h.pt 45 rfl, h.pt 46 rfl, (by omega), h.2.1⟩
  · exact ⟨h.kc (by decide) rfl, h.ka (by decide) rfl, h.ka (by decide) rfl, h.ka (by decide) rfl, h.pt 48 rfl, h.pt 49 rfl, h.pt 50 rfl, (by omega), h.2.1⟩
  · exact ⟨h.kc (by decide) rfl, h.ka (by decide) rfl, h.ka (by decide) rfl, h.ka (by decide) rfl, h.pt 52 rfl, h.pt 53 rfl, h.pt 54 rfl, (by omega), h.2.1⟩
  · exact ⟨h.kc (by decide) rfl, h.ka (by decide) rfl, h.ka (by decide) rfl, h.ka (by decide) rfl, h.pt 56 rfl, h.pt 57 rfl, h.pt 58 rfl, (by omega), h.2.1⟩
  · exact ⟨h.kc (by decide) rfl, h.ka (by decide) rfl, h.ka (by decide) rfl, h.ka (by decide) rfl, h.pt 60 rfl, h.pt 61 rfl, h.pt 62 rfl, (by omega), h.2.1⟩
  · exact ⟨h.kc (by decide) rfl, h.ka (by decide) rfl, h.ka (by decide) rfl, h.ka (by decide) rfl, h.pt 64 rfl, h.pt 65 rfl, h.pt 66 rfl, (by omega), h.2.1⟩
  · exact ⟨h.kc (by decide) rfl, h.ka (by decide) rfl, h.ka (by decide) rfl, h.ka (by decide) rfl, h.pt 68 rfl, h.pt 69 rfl, h.pt 70 rfl, (by omega), h.2.1⟩
  · exact ⟨h.kc (by decide) rfl, h.ka (by decide) rfl, h.ka (by decide) rfl, h.ka (by decide) rfl, h.pt 72 rfl, h.pt 73 rfl, h.pt 74 rfl, (by omega), h.2.1⟩
  · exact ⟨h.kc (by decide) rfl, h.ka (by decide) rfl, h.ka (by decide) rfl, h.ka (by decide) rfl, h.pt 76 rfl, h.pt 77 rfl, h.pt 78 rfl, (by omega), h.2.1⟩
  · exact ⟨h.kc (by decide) rfl, h.ka (by decide) rfl, h.ka (by decide) rfl, h.ka (by decide) rfl, h.pt 81 rfl, h.pt 82 rfl, h.pt 83 rfl, (by omega), h.2.1⟩
  · exact ⟨h.kc (by decide) rfl, h.ka (by decide) rfl, h.ka (by decide) rfl, h.ka (by decide) rfl, h.pt 85 rfl, h.pt 86 rfl, h.pt 87 rfl, (by omega), h.2.1⟩
theorem zsh_b : ∀ i ∈ zsh, 21 ≤ i ∧ i ≤ 88 := by decide
theorem zsh_sep : ∀ i ∈ zsh, ∀ j ∈ zsh, i ≠ j → i + 4 ≤ j ∨ j + 4 ≤ i := by decide +kernel
def zS (Rf : Nat → Nat → Option Nat) (a : Nat) : Prop := Rf 5 3 = some a ∧ Rf 5 4 = some (21 - a) ∧ (a = 8 ∨ a = 13)
theorem zS.tr {Rf Rf' : Nat → Nat → Option Nat} {a : Nat} (h : zS Rf a) (hR : ∀ c k, ¬ (c = 112 ∧ k = 10) → Rf' c k = Rf c k) : zS Rf' a := ⟨(hR 5 3 (by decide)).trans h.1, (hR 5 4 (by decide)).trans h.2.1, h.2.2⟩
theorem zsh35 : ∀ j, j < 12 → 33 + 2 + 4 * j ∈ zsh := by decide
theorem zpt34a : ∀ j, j < 12 → zpt[35 + 4 * j]? = some (34, j, 33 + 2 + 4 * j) := by decide +kernel
theorem zpt34 {n : Nat} {kd : Nat → Nat × Nat} {Rf : Nat → Nat → Option Nat} {j : Nat} (h : zF n kd Rf) (hj : j < 12) : Rf (33 + 1) j = some (33 + 2 + 4 * j) := h.2.2.2 _ _ (zpt34a j hj)
theorem zF.rul {n : Nat} {kd : Nat → Nat × Nat} {Rf : Nat → Nat → Option Nat} {a : Nat} (h : zF n kd Rf) (ha : a = 8 ∨ a = 13) : eb_rul n kd Rf a := by
  rcases ha with rfl | rfl
  · exact ⟨h.kc (by decide) rfl, h.ka (by decide) rfl, h.ka (by decide) rfl, h.ka (by decide) rfl, h.ka (by decide) rfl, h.pt 7 rfl, h.pt 8 rfl, h.pt 9 rfl, h.pt 10 rfl, (by have := h.1; omega), h.2.1⟩
  · exact ⟨h.kc (by decide) rfl, h.ka (by decide) rfl, h.ka (by decide) rfl, h.ka (by decide) rfl, h.ka (by decide) rfl, h.pt 11 rfl, h.pt 12 rfl, h.pt 13 rfl, h.pt 14 rfl, (by have := h.1; omega), h.2.1⟩
theorem zF.sea {n : Nat} {kd : Nat → Nat × Nat} {Rf : Nat → Nat → Option Nat} {a : Nat} (h : zF n kd Rf) (ha : zS Rf a) : eb_sea n kd Rf 5 a := ⟨h.kc (by decide) rfl, h.ka (by decide) rfl, h.ka (by decide) rfl, h.ka (by decide) rfl, h.ka (by decide) rfl, h.ka (by decide) rfl, h.pt 5 rfl, h.pt 6 rfl, ha.1, h.pt 15 rfl, h.pt 16 rfl, h.pt 17 rfl, h.rul ha.2.2, (by have := ha.2.2; omega), (by have := h.1; omega), h.2.1⟩
theorem zF.txt {n : Nat} {kd : Nat → Nat × Nat} {Rf : Nat → Nat → Option Nat} (h : zF n kd Rf) : eb_txt n kd Rf 1 := ⟨h.kc (by decide) rfl, h.ka (by decide) rfl, h.pt 0 rfl, (by have := h.1; omega), h.2.1⟩
theorem zF.pst {n : Nat} {kd : Nat → Nat × Nat} {Rf : Nat → Nat → Option Nat} (h : zF n kd Rf) : eb_pst n kd Rf 33 := ⟨h.kc (by decide) rfl, h.ka (by decide) rfl, h.pt 31 rfl, fun j hj => ⟨zpt34 h hj, h.shp (zsh35 j hj)⟩, (by have := h.1; omega), h.2.1⟩
theorem zF.tal {n : Nat} {kd : Nat → Nat × Nat} {Rf : Nat → Nat → Option Nat} (h : zF n kd Rf) : eb_tal n kd Rf 93 10 := ⟨h.kc (by decide) rfl, h.ka (by decide) rfl, h.ka (by decide) rfl, h.ka (by decide) rfl, h.pt 91 rfl, h.pt 92 rfl, h.pt 93 rfl, (by have := h.1; omega), h.2.1⟩
theorem zF.rum {n : Nat} {kd : Nat → Nat × Nat} {Rf : Nat → Nat → Option Nat} (h : zF n kd Rf) : eb_tal n kd Rf 97 12 := ⟨h.kc (by decide) rfl, h.ka (by decide) rfl, h.ka (by decide) rfl, h.ka (by decide) rfl, h.pt 95 rfl, h.pt 96 rfl, h.pt 97 rfl, (by have := h.1; omega), h.2.1⟩
theorem y_X7_has {n : Nat} {sl : Nat × Nat} {kd : Nat → Nat × Nat} {I : Nat → Nat → Int32} {L : Nat → Nat → Int64} {Rf : Nat → Nat → Option Nat} (d : Nat) {i : Nat} (h : eb_shp n kd Rf i) (hr : 21 ≤ i ∧ i ≤ 88) (b : Int32) : zq mX7_has d [.ref i, .int b] (n, sl, kd, I, L, Rf) (eb_b (0 ≤ b ∧ b < I i 3) (n, sl, kd, I, L, Rf)) := by
  intro f B
  refine ez_meth pn_X.2.2.2.2.2.2.2.1 (Nat.le_of_ble_eq_true rfl) ?_
  show ez_P _ _ _ _ mX7_has (d) 0 [(0, .ref i), (1, .int b)] [] (n, sl, kd, I, L, Rf) _
  refine ez_iload_n (i := 1) dX7_has_0 rfl rfl ?_
  refine ez_if_lt (tgt := 16) dX7_has_1 (by decide) (fun c1 => ?_) (fun c1 => ?_)
  · skip
    refine ez_iconst (v := 0) dX7_has_16 (by decide) ?_
    refine ez_iret dX7_has_17 rfl (by decide) ?_
    exact ⟨rfl, Or.inr ⟨by simp only [Int32.lt_iff_toInt_lt, Int32.le_iff_toInt_le] at *; omega, rfl⟩⟩
  · skip
    refine ez_iload_n (i := 1) dX7_has_4 rfl rfl ?_
    refine ez_aload_n (i := 0) dX7_has_5 rfl rfl ?_
    refine ez_getI dX7_has_6 flX7_25 h.i0 h.1 ?_
    refine ez_icmp_ge (tgt := 16) dX7_has_9 (by decide) (fun c2 => ?_) (fun c2 => ?_)
    · skip
      refine ez_iconst (v := 0) dX7_has_16 (by decide) ?_
      refine ez_iret dX7_has_17 rfl (by decide) ?_
      exact ⟨rfl, Or.inr ⟨by simp only [Int32.lt_iff_toInt_lt, Int32.le_iff_toInt_le] at *; omega, rfl⟩⟩
    · skip
      refine ez_iconst (v := 1) dX7_has_12 (by decide) ?_
      refine ez_goto (tgt := 17) dX7_has_13 (by decide) ?_
      refine ez_iret dX7_has_17 rfl (by decide) ?_
      exact ⟨rfl, Or.inl ⟨by simp only [Int32.lt_iff_toInt_lt, Int32.le_iff_toInt_le] at *; omega, rfl⟩⟩
theorem y_X7_othersLike {n : Nat} {sl : Nat × Nat} {kd : Nat → Nat × Nat} {I : Nat → Nat → Int32} {L : Nat → Nat → Int64} {Rf : Nat → Nat → Option Nat} (d : Nat) {i b c : Nat} (h : eb_shp n kd Rf i) (hr : 21 ≤ i ∧ i ≤ 88) (hc : I i 3 = nI c) (hc7 : c ≤ 7) (hb : b < 7) : zq mX7_othersLike d [.ref i, .int (nI b)] (n, sl, kd, I, L, Rf) (eb_r (z_cnt (I (i + 2)) (I (i + 2) b) c) (n, sl, kd, I, L, Rf)) := by
  intro f B
  refine ez_meth pn_X.2.2.2.2.2.2.2.1 (Nat.le_of_ble_eq_true rfl) ?_
  show ez_P _ _ _ _ mX7_othersLike (d) 0 [(0, .ref i), (1, .int (nI b))] [] (n, sl, kd, I, L, Rf) _
  refine ez_iconst (v := (-1)) dX7_othersLike_0 (by decide) ?_
  refine ez_istore_n (l' := [(2, .int ((-1))), (0, .ref i), (1, .int (nI b))]) dX7_othersLike_1 rfl (by decide) rfl ?_
  refine ez_iconst (v := 0) dX7_othersLike_2 (by decide) ?_
  refine ez_istore_n (l' := [(3, .int 0), (2, .int ((-1))), (0, .ref i), (1, .int (nI b))]) dX7_othersLike_3 rfl (by decide) rfl ?_
  refine ez_eq (l2 := [(3, .int (nI 0)), (2, .int (z_cnt (I (i + 2)) (I (i + 2) b) 0)), (0, .ref i), (1, .int (nI b))]) (σ2 := (n, sl, kd, I, L, Rf)) rfl (by rw [nI_0]; rfl) rfl rfl ?_
  refine ez_for c (fun k (a : Unit) => ([(3, .int (nI k)), (2, .int (z_cnt (I (i + 2)) (I (i + 2) b) k)), (0, .ref i), (1, .int (nI b))], (n, sl, kd, I, L, Rf))) (fun k a => True) ?_ ?_ c 0 () (by omega) trivial
  · intro k a hk hinv ih
    show ez_P _ _ _ _ _ _ 4 [(3, .int (nI k)), (2, .int (z_cnt (I (i + 2)) (I (i + 2) b) k)), (0, .ref i), (1, .int (nI b))] [] (n, sl, kd, I, L, Rf) _
    refine ez_iload_n (i := 3) dX7_othersLike_4 rfl rfl ?_
    refine ez_aload_n (i := 0) dX7_othersLike_5 rfl rfl ?_
    refine ez_getI dX7_othersLike_6 flX7_25 h.i0 h.1 ?_
    refine ez_icmp_ge (tgt := 41) dX7_othersLike_9 (by decide) (fun c1 => absurd c1 (by rw [hc]; exact nI_ge hk (by omega))) (fun c1 => ?_)
    refine ez_iload_n (i := 2) dX7_othersLike_12 rfl rfl ?_
    refine ez_aload_n (i := 0) dX7_othersLike_13 rfl rfl ?_
    refine ez_getR dX7_othersLike_14 flX7_15 h.i0 h.1 h.2.2.2.2.2.1 ?_
    refine ez_iload_n (i := 3) dX7_othersLike_17 rfl rfl ?_
    refine ez_iaN dX7_othersLike_18 h.i2 h.2.2.1 (by omega) (by decide) ?_
    refine ez_aload_n (i := 0) dX7_othersLike_19 rfl rfl ?_
    refine ez_getR dX7_othersLike_20 flX7_15 h.i0 h.1 h.2.2.2.2.2.1 ?_
    refine ez_iload_n (i := 1) dX7_othersLike_23 rfl rfl ?_
    refine ez_iaN dX7_othersLike_24 h.i2 h.2.2.1 (by omega) (by decide) ?_
    refine ez_icmp_ne (tgt := 32) dX7_othersLike_25 (by decide) (fun c2 => ?_) (fun c2 => ?_)
    · skip
      refine ez_iconst (v := 0) dX7_othersLike_32 (by decide) ?_
      refine ez_iadd dX7_othersLike_33 ?_
      refine ez_istore_n (l' := [(2, .int ((z_cnt (I (i + 2)) (I (i + 2) b) k) + 0)), (3, .int (nI k)), (0, .ref i), (1, .int (nI b))]) dX7_othersLike_34 rfl (by decide) rfl ?_
      refine ez_iinc (v := (nI (k + 1))) (l' := [(3, .int ((nI (k + 1)))), (2, .int ((z_cnt (I (i + 2)) (I (i + 2) b) k) + 0)), (0, .ref i), (1, .int (nI b))]) dX7_othersLike_35 rfl (nI_1 _) (by decide) rfl ?_
      refine ez_goto (tgt := 4) dX7_othersLike_38 (by decide) ?_
      refine ez_eq (l2 := [(3, .int (nI (k + 1))), (2, .int (z_cnt (I (i + 2)) (I (i + 2) b) (k + 1))), (0, .ref i), (1, .int (nI b))]) rfl ?_ rfl rfl (ih () trivial)
      clear ih; simp_all [z_cnt]
    · skip
      refine ez_iconst (v := 1) dX7_othersLike_28 (by decide) ?_
      refine ez_goto (tgt := 33) dX7_othersLike_29 (by decide) ?_
      refine ez_iadd dX7_othersLike_33 ?_
      refine ez_istore_n (l' := [(2, .int ((z_cnt (I (i + 2)) (I (i + 2) b) k) + 1)), (3, .int (nI k)), (0, .ref i), (1, .int (nI b))]) dX7_othersLike_34 rfl (by decide) rfl ?_
      refine ez_iinc (v := (nI (k + 1))) (l' := [(3, .int ((nI (k + 1)))), (2, .int ((z_cnt (I (i + 2)) (I (i + 2) b) k) + 1)), (0, .ref i), (1, .int (nI b))]) dX7_othersLike_35 rfl (nI_1 _) (by decide) rfl ?_
      refine ez_goto (tgt := 4) dX7_othersLike_38 (by decide) ?_
      refine ez_eq (l2 := [(3, .int (nI (k + 1))), (2, .int (z_cnt (I (i + 2)) (I (i + 2) b) (k + 1))), (0, .ref i), (1, .int (nI b))]) rfl ?_ rfl rfl (ih () trivial)
      clear ih; simp_all [z_cnt]
  · intro a hinv
    show ez_P _ _ _ _ _ _ 4 [(3, .int (nI c)), (2, .int (z_cnt (I (i + 2)) (I (i + 2) b) c)), (0, .ref i), (1, .int (nI b))] [] (n, sl, kd, I, L, Rf) _
    refine ez_iload_n (i := 3) dX7_othersLike_4 rfl rfl ?_
    refine ez_aload_n (i := 0) dX7_othersLike_5 rfl rfl ?_
    refine ez_getI dX7_othersLike_6 flX7_25 h.i0 h.1 ?_
    refine ez_icmp_ge (tgt := 41) dX7_othersLike_9 (by decide) (fun c3 => ?_) (fun c3 => absurd (by rw [hc]; exact nI_le (Nat.le_refl _) (by omega)) c3)
    refine ez_iload_n (i := 2) dX7_othersLike_41 rfl rfl ?_
    refine ez_iret dX7_othersLike_42 rfl rfl ?_
    exact ⟨rfl, rfl⟩
theorem y_X7_gravityOfAll {n : Nat} {sl : Nat × Nat} {kd : Nat → Nat × Nat} {I : Nat → Nat → Int32} {L : Nat → Nat → Int64} {Rf : Nat → Nat → Option Nat} (d : Nat) {i c : Nat} (h : eb_shp n kd Rf i) (hr : 21 ≤ i ∧ i ≤ 88) (hc : I i 3 = nI c) (hc7 : c ≤ 7) : zq mX7_gravityOfAll d [.ref i] (n, sl, kd, I, L, Rf) (eb_r (z_sum (I (i + 1)) c) (n, sl, kd, I, L, Rf)) := by
  intro f B
  refine ez_meth pn_X.2.2.2.2.2.2.2.1 (Nat.le_of_ble_eq_true rfl) ?_
  show ez_P _ _ _ _ mX7_gravityOfAll (d) 0 [(0, .ref i)] [] (n, sl, kd, I, L, Rf) _
  refine ez_iconst (v := 0) dX7_gravityOfAll_0 (by decide) ?_
  refine ez_istore_n (l' := [(1, .int 0), (0, .ref i)]) dX7_gravityOfAll_1 rfl (by decide) rfl ?_
  refine ez_iconst (v := 0) dX7_gravityOfAll_2 (by decide) ?_
  refine ez_istore_n (l' := [(2, .int 0), (1, .int 0), (0, .ref i)]) dX7_gravityOfAll_3 rfl (by decide) rfl ?_
  refine ez_eq (l2 := [(2, .int (nI 0)), (1, .int (z_sum (I (i + 1)) 0)), (0, .ref i)]) (σ2 := (n, sl, kd, I, L, Rf)) rfl (by rw [nI_0]; rfl) rfl rfl ?_
  refine ez_for c (fun k (a : Unit) => ([(2, .int (nI k)), (1, .int (z_sum (I (i + 1)) k)), (0, .ref i)], (n, sl, kd, I, L, Rf))) (fun k a => True) ?_ ?_ c 0 () (by omega) trivial
  · intro k a hk hinv ih
    show ez_P _ _ _ _ _ _ 4 [(2, .int (nI k)), (1, .int (z_sum (I (i + 1)) k)), (0, .ref i)] [] (n, sl, kd, I, L, Rf) _
    refine ez_iload_n (i := 2) dX7_gravityOfAll_4 rfl rfl ?_
    refine ez_aload_n (i := 0) dX7_gravityOfAll_5 rfl rfl ?_
    refine ez_getI dX7_gravityOfAll_6 flX7_25 h.i0 h.1 ?_
    refine ez_icmp_ge (tgt := 27) dX7_gravityOfAll_9 (by decide) (fun c1 => absurd c1 (by rw [hc]; exact nI_ge hk (by omega))) (fun c1 => ?_)
    refine ez_iload_n (i := 1) dX7_gravityOfAll_12 rfl rfl ?_
    refine ez_aload_n (i := 0) dX7_gravityOfAll_13 rfl rfl ?_
    refine ez_getR dX7_gravityOfAll_14 flX7_9 h.i0 h.1 h.2.2.2.2.1 ?_
    refine ez_iload_n (i := 2) dX7_gravityOfAll_17 rfl rfl ?_
    refine ez_iaN dX7_gravityOfAll_18 h.i1 h.2.1 (by omega) (by decide) ?_
    refine ez_iadd dX7_gravityOfAll_19 ?_
    refine ez_istore_n (l' := [(1, .int ((z_sum (I (i + 1)) k) + (I (i + 1) k))), (2, .int (nI k)), (0, .ref i)]) dX7_gravityOfAll_20 rfl (by decide) rfl ?_
    refine ez_iinc (v := (nI (k + 1))) (l' := [(2, .int ((nI (k + 1)))), (1, .int ((z_sum (I (i + 1)) k) + (I (i + 1) k))), (0, .ref i)]) dX7_gravityOfAll_21 rfl (nI_1 _) (by decide) rfl ?_
    refine ez_goto (tgt := 4) dX7_gravityOfAll_24 (by decide) ?_
    refine ez_eq (l2 := [(2, .int (nI (k + 1))), (1, .int (z_sum (I (i + 1)) (k + 1))), (0, .ref i)]) rfl ?_ rfl rfl (ih () trivial)
    clear ih; simp_all [z_sum]
  · intro a hinv
    show ez_P _ _ _ _ _ _ 4 [(2, .int (nI c)), (1, .int (z_sum (I (i + 1)) c)), (0, .ref i)] [] (n, sl, kd, I, L, Rf) _
    refine ez_iload_n (i := 2) dX7_gravityOfAll_4 rfl rfl ?_
    refine ez_aload_n (i := 0) dX7_gravityOfAll_5 rfl rfl ?_
    refine ez_getI dX7_gravityOfAll_6 flX7_25 h.i0 h.1 ?_
    refine ez_icmp_ge (tgt := 27) dX7_gravityOfAll_9 (by decide) (fun c2 => ?_) (fun c2 => absurd (by rw [hc]; exact nI_le (Nat.le_refl _) (by omega)) c2)
    refine ez_iload_n (i := 1) dX7_gravityOfAll_27 rfl rfl ?_
    refine ez_iret dX7_gravityOfAll_28 rfl rfl ?_
    exact ⟨rfl, rfl⟩
theorem y_X7_tell_ok {n : Nat} {sl : Nat × Nat} {kd : Nat → Nat × Nat} {I : Nat → Nat → Int32} {L : Nat → Nat → Int64} {Rf : Nat → Nat → Option Nat} (d : Nat) {i b c : Nat} (h : eb_shp n kd Rf i) (hr : 21 ≤ i ∧ i ≤ 88) (hc : I i 3 = nI c) (hc7 : c ≤ 7) (hb : b < c) {x : Int32} (hx : 0 ≤ x ∧ x ≤ 5) : zq mX7_tell (d + 1) [.ref i, .int (nI b), .int x] (n, sl, kd, I, L, Rf) (fun r τ => τ = (n, sl, kd, z_set I (i + 2) b x, L, Rf) ∧ r = some (.int (if I (i + 2) b = x then -2 else 10 + I (i + 2) b))) := by
  intro f B
  refine ez_meth pn_X.2.2.2.2.2.2.2.1 (Nat.le_of_ble_eq_true rfl) ?_
  show ez_P _ _ _ _ mX7_tell (d + 1) 0 [(0, .ref i), (1, .int (nI b)), (2, .int x)] [] (n, sl, kd, I, L, Rf) _
  refine ez_aload_n (i := 0) dX7_tell_0 rfl rfl ?_
  refine ez_iload_n (i := 1) dX7_tell_1 rfl rfl ?_
  refine ez_callV (M1 := mX7_has) (rest := []) dX7_tell_2 mlX7_56 mvX7_has rfl h.i0 h.1 (Nat.le_of_ble_eq_true rfl) rfl (zq_b1 ⟨nI_pos' (by omega), by rw [hc]; exact nI_lt hb (by omega)⟩ (y_X7_has d h hr (nI b))) eb_rok ?_
  rintro _ _ ⟨rfl, rfl⟩
  show ez_P _ _ _ _ _ _ 5 [(0, .ref i), (1, .int (nI b)), (2, .int x)] (.int 1 :: []) _ _
  refine ez_if_eq (tgt := 17) dX7_tell_5 (by decide) (fun c1 => absurd c1 (by decide)) (fun c1 => ?_)
  refine ez_iload_n (i := 2) dX7_tell_8 rfl rfl ?_
  refine ez_iconst (v := 0) dX7_tell_9 (by decide) ?_
  refine ez_iconst (v := 5) dX7_tell_10 (by decide) ?_
  refine ez_callS (M1 := mX10_within) (rest := []) dX7_tell_11 mlX7_60 msX10_within rfl (Nat.le_of_ble_eq_true rfl) rfl (zq_b1 hx (zq_b (q_X10_within d x 0 5) (n, sl, kd, I, L, Rf))) eb_rok ?_
  rintro _ _ ⟨rfl, rfl⟩
  show ez_P _ _ _ _ _ _ 14 [(0, .ref i), (1, .int (nI b)), (2, .int x)] (.int 1 :: []) _ _
  refine ez_if_ne (tgt := 19) dX7_tell_14 (by decide) (fun c2 => ?_) (fun c2 => absurd (by decide) c2)
  refine ez_aload_n (i := 0) dX7_tell_19 rfl rfl ?_
  refine ez_getR dX7_tell_20 flX7_15 h.i0 h.1 h.2.2.2.2.2.1 ?_
  refine ez_iload_n (i := 1) dX7_tell_23 rfl rfl ?_
  refine ez_iaN dX7_tell_24 h.i2 h.2.2.1 (by omega) (by decide) ?_
  refine ez_istore_n (l' := [(3, .int (I (i + 2) b)), (0, .ref i), (1, .int (nI b)), (2, .int x)]) dX7_tell_25 rfl (by decide) rfl ?_
  refine ez_aload_n (i := 0) dX7_tell_26 rfl rfl ?_
  refine ez_getR dX7_tell_27 flX7_15 h.i0 h.1 h.2.2.2.2.2.1 ?_
  refine ez_iload_n (i := 1) dX7_tell_30 rfl rfl ?_
  refine ez_iload_n (i := 2) dX7_tell_31 rfl rfl ?_
  refine ez_isN dX7_tell_32 h.i2 (by have := h.x; omega) h.2.2.1 (by omega) (by decide) ?_
  refine ez_nmI (fun I3 hI3 => ?_)
  refine ez_iload_n (i := 3) dX7_tell_33 rfl rfl ?_
  refine ez_iload_n (i := 2) dX7_tell_34 rfl rfl ?_
  refine ez_icmp_ne (tgt := 43) dX7_tell_35 (by decide) (fun c4 => ?_) (fun c4 => ?_)
  · skip
    refine ez_bipush (v := 10) dX7_tell_43 (by decide) ?_
    refine ez_iload_n (i := 3) dX7_tell_45 rfl rfl ?_
    refine ez_iadd dX7_tell_46 ?_
    refine ez_iret dX7_tell_47 rfl rfl ?_
    exact ⟨by simp_all, by simp_all⟩
  · skip
    refine ez_bipush (v := (-2)) dX7_tell_38 (by decide) ?_
    refine ez_goto (tgt := 47) dX7_tell_40 (by decide) ?_
    refine ez_iret dX7_tell_47 rfl rfl ?_
    exact ⟨by simp_all, by simp_all⟩
theorem y_X7_tell_no {n : Nat} {sl : Nat × Nat} {kd : Nat → Nat × Nat} {I : Nat → Nat → Int32} {L : Nat → Nat → Int64} {Rf : Nat → Nat → Option Nat} (d : Nat) {i : Nat} (h : eb_shp n kd Rf i) (hr : 21 ≤ i ∧ i ≤ 88) (b : Int32) (hno : ¬ (0 ≤ b ∧ b < I i 3)) (x : Int32) : zq mX7_tell (d + 1) [.ref i, .int b, .int x] (n, sl, kd, I, L, Rf) (eb_r (-1) (n, sl, kd, I, L, Rf)) := by
  intro f B
  refine ez_meth pn_X.2.2.2.2.2.2.2.1 (Nat.le_of_ble_eq_true rfl) ?_
  show ez_P _ _ _ _ mX7_tell (d + 1) 0 [(0, .ref i), (1, .int b), (2, .int x)] [] (n, sl, kd, I, L, Rf) _
  refine ez_aload_n (i := 0) dX7_tell_0 rfl rfl ?_
  refine ez_iload_n (i := 1) dX7_tell_1 rfl rfl ?_
  refine ez_callV (M1 := mX7_has) (rest := []) dX7_tell_2 mlX7_56 mvX7_has rfl h.i0 h.1 (Nat.le_of_ble_eq_true rfl) rfl (zq_b0 hno (y_X7_has d h hr b)) eb_rok ?_
  rintro _ _ ⟨rfl, rfl⟩
  show ez_P _ _ _ _ _ _ 5 [(0, .ref i), (1, .int b), (2, .int x)] (.int 0 :: []) _ _
  refine ez_if_eq (tgt := 17) dX7_tell_5 (by decide) (fun c1 => ?_) (fun c1 => absurd (by decide) c1)
  refine ez_iconst (v := (-1)) dX7_tell_17 (by decide) ?_
  refine ez_iret dX7_tell_18 rfl rfl ?_
  exact ⟨rfl, rfl⟩
theorem y_X7_tell_nx {n : Nat} {sl : Nat × Nat} {kd : Nat → Nat × Nat} {I : Nat → Nat → Int32} {L : Nat → Nat → Int64} {Rf : Nat → Nat → Option Nat} (d : Nat) {i b c : Nat} (h : eb_shp n kd Rf i) (hr : 21 ≤ i ∧ i ≤ 88) (hc : I i 3 = nI c) (hc7 : c ≤ 7) (hb : b < c) {x : Int32} (hx : ¬ (0 ≤ x ∧ x ≤ 5)) : zq mX7_tell (d + 1) [.ref i, .int (nI b), .int x] (n, sl, kd, I, L, Rf) (eb_r (-1) (n, sl, kd, I, L, Rf)) := by
  intro f B
  refine ez_meth pn_X.2.2.2.2.2.2.2.1 (Nat.le_of_ble_eq_true rfl) ?_
  show ez_P _ _ _ _ mX7_tell (d + 1) 0 [(0, .ref i), (1, .int (nI b)), (2, .int x)] [] (n, sl, kd, I, L, Rf) _
  refine ez_aload_n (i := 0) dX7_tell_0 rfl rfl ?_
  refine ez_iload_n (i := 1) dX7_tell_1 rfl rfl ?_
  refine ez_callV (M1 := mX7_has) (rest := []) dX7_tell_2 mlX7_56 mvX7_has rfl h.i0 h.1 (Nat.le_of_ble_eq_true rfl) rfl (zq_b1 ⟨nI_pos' (by omega), by rw [hc]; exact nI_lt hb (by omega)⟩ (y_X7_has d h hr (nI b))) eb_rok ?_
  rintro _ _ ⟨rfl, rfl⟩
  show ez_P _ _ _ _ _ _ 5 [(0, .ref i), (1, .int (nI b)), (2, .int x)] (.int 1 :: []) _ _
  refine ez_if_eq (tgt := 17) dX7_tell_5 (by decide) (fun c1 => absurd c1 (by decide)) (fun c1 => ?_)
  refine ez_iload_n (i := 2) dX7_tell_8 rfl rfl ?_
  refine ez_iconst (v := 0) dX7_tell_9 (by decide) ?_
  refine ez_iconst (v := 5) dX7_tell_10 (by decide) ?_
  refine ez_callS (M1 := mX10_within) (rest := []) dX7_tell_11 mlX7_60 msX10_within rfl (Nat.le_of_ble_eq_true rfl) rfl (zq_b0 hx (zq_b (q_X10_within d x 0 5) (n, sl, kd, I, L, Rf))) eb_rok ?_
  rintro _ _ ⟨rfl, rfl⟩
  show ez_P _ _ _ _ _ _ 14 [(0, .ref i), (1, .int (nI b)), (2, .int x)] (.int 0 :: []) _ _
  refine ez_if_ne (tgt := 19) dX7_tell_14 (by decide) (fun c2 => absurd c2 (by decide)) (fun c2 => ?_)
  refine ez_iconst (v := (-1)) dX7_tell_17 (by decide) ?_
  refine ez_iret dX7_tell_18 rfl rfl ?_
  exact ⟨rfl, rfl⟩
theorem y_X7_move_ok {n : Nat} {sl : Nat × Nat} {kd : Nat → Nat × Nat} {I : Nat → Nat → Int32} {L : Nat → Nat → Int64} {Rf : Nat → Nat → Option Nat} (d : Nat) {i b c : Nat} (h : eb_shp n kd Rf i) (hr : 21 ≤ i ∧ i ≤ 88) (hc : I i 3 = nI c) (hc7 : c ≤ 7) (hb : b < c) {x : Int32} (hx : (-5) ≤ x ∧ x ≤ 5) : zq mX7_move (d + 1) [.ref i, .int (nI b), .int x] (n, sl, kd, I, L, Rf) (fun r τ => τ = (n, sl, kd, z_set I (i + 3) b x, L, Rf) ∧ r = some (.int (if (if 0 ≤ x - I (i + 3) b then x - I (i + 3) b else 0 - (x - I (i + 3) b)) = 0 then -2 else (if 0 ≤ x - I (i + 3) b then x - I (i + 3) b else 0 - (x - I (i + 3) b))))) := by
  intro f B
  refine ez_meth pn_X.2.2.2.2.2.2.2.1 (Nat.le_of_ble_eq_true rfl) ?_
  show ez_P _ _ _ _ mX7_move (d + 1) 0 [(0, .ref i), (1, .int (nI b)), (2, .int x)] [] (n, sl, kd, I, L, Rf) _
  refine ez_aload_n (i := 0) dX7_move_0 rfl rfl ?_
  refine ez_iload_n (i := 1) dX7_move_1 rfl rfl ?_
  refine ez_callV (M1 := mX7_has) (rest := []) dX7_move_2 mlX7_56 mvX7_has rfl h.i0 h.1 (Nat.le_of_ble_eq_true rfl) rfl (zq_b1 ⟨nI_pos' (by omega), by rw [hc]; exact nI_lt hb (by omega)⟩ (y_X7_has d h hr (nI b))) eb_rok ?_
  rintro _ _ ⟨rfl, rfl⟩
  show ez_P _ _ _ _ _ _ 5 [(0, .ref i), (1, .int (nI b)), (2, .int x)] (.int 1 :: []) _ _
  refine ez_if_eq (tgt := 18) dX7_move_5 (by decide) (fun c1 => absurd c1 (by decide)) (fun c1 => ?_)
  refine ez_iload_n (i := 2) dX7_move_8 rfl rfl ?_
  refine ez_bipush (v := (-5)) dX7_move_9 (by decide) ?_
  refine ez_iconst (v := 5) dX7_move_11 (by decide) ?_
  refine ez_callS (M1 := mX10_within) (rest := []) dX7_move_12 mlX7_60 msX10_within rfl (Nat.le_of_ble_eq_true rfl) rfl (zq_b1 hx (zq_b (q_X10_within d x (-5) 5) (n, sl, kd, I, L, Rf))) eb_rok ?_
  rintro _ _ ⟨rfl, rfl⟩
  show ez_P _ _ _ _ _ _ 15 [(0, .ref i), (1, .int (nI b)), (2, .int x)] (.int 1 :: []) _ _
  refine ez_if_ne (tgt := 20) dX7_move_15 (by decide) (fun c2 => ?_) (fun c2 => absurd (by decide) c2)
  refine ez_iload_n (i := 2) dX7_move_20 rfl rfl ?_
  refine ez_aload_n (i := 0) dX7_move_21 rfl rfl ?_
  refine ez_getR dX7_move_22 flX7_18 h.i0 h.1 h.2.2.2.2.2.2.1 ?_
  refine ez_iload_n (i := 1) dX7_move_25 rfl rfl ?_
  refine ez_iaN dX7_move_26 h.i3 h.2.2.2.1 (by omega) (by decide) ?_
  refine ez_isub dX7_move_27 ?_
  refine ez_abs dX7_move_28 xmX7_64 (Nat.le_of_ble_eq_true rfl) ?_
  refine ez_istore_n (l' := [(3, .int (if 0 ≤ x - (I (i + 3) b) then x - (I (i + 3) b) else 0 - (x - (I (i + 3) b)))), (0, .ref i), (1, .int (nI b)), (2, .int x)]) dX7_move_31 rfl (by decide) rfl ?_
  refine ez_aload_n (i := 0) dX7_move_32 rfl rfl ?_
  refine ez_getR dX7_move_33 flX7_18 h.i0 h.1 h.2.2.2.2.2.2.1 ?_
  refine ez_iload_n (i := 1) dX7_move_36 rfl rfl ?_
  refine ez_iload_n (i := 2) dX7_move_37 rfl rfl ?_
  refine ez_isN dX7_move_38 h.i3 (by have := h.x; omega) h.2.2.2.1 (by omega) (by decide) ?_
  refine ez_nmI (fun I3 hI3 => ?_)
  refine ez_iload_n (i := 3) dX7_move_39 rfl rfl ?_
  refine ez_if_ne (tgt := 48) dX7_move_40 (by decide) (fun c4 => ?_) (fun c4 => ?_)
  · skip
    refine ez_iload_n (i := 3) dX7_move_48 rfl rfl ?_
    refine ez_iret dX7_move_49 rfl rfl ?_
    exact ⟨by simp_all, by simp_all⟩
  · skip
    refine ez_bipush (v := (-2)) dX7_move_43 (by decide) ?_
    refine ez_goto (tgt := 49) dX7_move_45 (by decide) ?_
    refine ez_iret dX7_move_49 rfl rfl ?_
    exact ⟨by simp_all, by simp_all⟩
theorem y_X7_move_no {n : Nat} {sl : Nat × Nat} {kd : Nat → Nat × Nat} {I : Nat → Nat → Int32} {L : Nat → Nat → Int64} {Rf : Nat → Nat → Option Nat} (d : Nat) {i : Nat} (h : eb_shp n kd Rf i) (hr : 21 ≤ i ∧ i ≤ 88) (b : Int32) (hno : ¬ (0 ≤ b ∧ b < I i 3)) (x : Int32) : zq mX7_move (d + 1) [.ref i, .int b, .int x] (n, sl, kd, I, L, Rf) (eb_r (-1) (n, sl, kd, I, L, Rf)) := by
  intro f B
  refine ez_meth pn_X.2.2.2.2.2.2.2.1 (Nat.le_of_ble_eq_true rfl) ?_
  show ez_P _ _ _ _ mX7_move (d + 1) 0 [(0, .ref i), (1, .int b), (2, .int x)] [] (n, sl, kd, I, L, Rf) _
  refine ez_aload_n (i := 0) dX7_move_0 rfl rfl ?_
  refine ez_iload_n (i := 1) dX7_move_1 rfl rfl ?_
  refine ez_callV (M1 := mX7_has) (rest := []) dX7_move_2 mlX7_56 mvX7_has rfl h.i0 h.1 (Nat.le_of_ble_eq_true rfl) rfl (zq_b0 hno (y_X7_has d h hr b)) eb_rok ?_
  rintro _ _ ⟨rfl, rfl⟩
  show ez_P _ _ _ _ _ _ 5 [(0, .ref i), (1, .int b), (2, .int x)] (.int 0 :: []) _ _
  refine ez_if_eq (tgt := 18) dX7_move_5 (by decide) (fun c1 => ?_) (fun c1 => absurd (by decide) c1)
  refine ez_iconst (v := (-1)) dX7_move_18 (by decide) ?_
  refine ez_iret dX7_move_19 rfl rfl ?_
  exact ⟨rfl, rfl⟩
theorem y_X7_move_nx {n : Nat} {sl : Nat × Nat} {kd : Nat → Nat × Nat} {I : Nat → Nat → Int32} {L : Nat → Nat → Int64} {Rf : Nat → Nat → Option Nat} (d : Nat) {i b c : Nat} (h : eb_shp n kd Rf i) (hr : 21 ≤ i ∧ i ≤ 88) (hc : I i 3 = nI c) (hc7 : c ≤ 7) (hb : b < c) {x : Int32} (hx : ¬ ((-5) ≤ x ∧ x ≤ 5)) : zq mX7_move (d + 1) [.ref i, .int (nI b), .int x] (n, sl, kd, I, L, Rf) (eb_r (-1) (n, sl, kd, I, L, Rf)) := by
  intro f B
  refine ez_meth pn_X.2.2.2.2.2.2.2.1 (Nat.le_of_ble_eq_true rfl) ?_
  show ez_P _ _ _ _ mX7_move (d + 1) 0 [(0, .ref i), (1, .int (nI b)), (2, .int x)] [] (n, sl, kd, I, L, Rf) _
  refine ez_aload_n (i := 0) dX7_move_0 rfl rfl ?_
  refine ez_iload_n (i := 1) dX7_move_1 rfl rfl ?_
  refine ez_callV (M1 := mX7_has) (rest := []) dX7_move_2 mlX7_56 mvX7_has rfl h.i0 h.1 (Nat.le_of_ble_eq_true rfl) rfl (zq_b1 ⟨nI_pos' (by omega), by rw [hc]; exact nI_lt hb (by omega)⟩ (y_X7_has d h hr (nI b))) eb_rok ?_
  rintro _ _ ⟨rfl, rfl⟩
  show ez_P _ _ _ _ _ _ 5 [(0, .ref i), (1, .int (nI b)), (2, .int x)] (.int 1 :: []) _ _
  refine ez_if_eq (tgt := 18) dX7_move_5 (by decide) (fun c1 => absurd c1 (by decide)) (fun c1 => ?_)
  refine ez_iload_n (i := 2) dX7_move_8 rfl rfl ?_
  refine ez_bipush (v := (-5)) dX7_move_9 (by decide) ?_
  refine ez_iconst (v := 5) dX7_move_11 (by decide) ?_
  refine ez_callS (M1 := mX10_within) (rest := []) dX7_move_12 mlX7_60 msX10_within rfl (Nat.le_of_ble_eq_true rfl) rfl (zq_b0 hx (zq_b (q_X10_within d x (-5) 5) (n, sl, kd, I, L, Rf))) eb_rok ?_
  rintro _ _ ⟨rfl, rfl⟩
  show ez_P _ _ _ _ _ _ 15 [(0, .ref i), (1, .int (nI b)), (2, .int x)] (.int 0 :: []) _ _
  refine ez_if_ne (tgt := 20) dX7_move_15 (by decide) (fun c2 => absurd c2 (by decide)) (fun c2 => ?_)
  refine ez_iconst (v := (-1)) dX7_move_18 (by decide) ?_
  refine ez_iret dX7_move_19 rfl rfl ?_
  exact ⟨rfl, rfl⟩
theorem y_X7_ease_ok {n : Nat} {sl : Nat × Nat} {kd : Nat → Nat × Nat} {I : Nat → Nat → Int32} {L : Nat → Nat → Int64} {Rf : Nat → Nat → Option Nat} (d : Nat) {i b c : Nat} (h : eb_shp n kd Rf i) (hr : 21 ≤ i ∧ i ≤ 88) (hc : I i 3 = nI c) (hc7 : c ≤ 7) (hb : b < c) (hz : I (i + 1) b ≠ 0) : zq mX7_ease (d + 1) [.ref i, .int (nI b)] (n, sl, kd, I, L, Rf) (fun r τ => τ = (n, sl, kd, z_set I (i + 1) b (I (i + 1) b - 1), L, Rf) ∧ r = some (.int (I (i + 1) b - 1))) := by
  intro f B
  refine ez_meth pn_X.2.2.2.2.2.2.2.1 (Nat.le_of_ble_eq_true rfl) ?_
  show ez_P _ _ _ _ mX7_ease (d + 1) 0 [(0, .ref i), (1, .int (nI b))] [] (n, sl, kd, I, L, Rf) _
  refine ez_aload_n (i := 0) dX7_ease_0 rfl rfl ?_
  refine ez_iload_n (i := 1) dX7_ease_1 rfl rfl ?_
  refine ez_callV (M1 := mX7_has) (rest := []) dX7_ease_2 mlX7_56 mvX7_has rfl h.i0 h.1 (Nat.le_of_ble_eq_true rfl) rfl (zq_b1 ⟨nI_pos' (by omega), by rw [hc]; exact nI_lt hb (by omega)⟩ (y_X7_has d h hr (nI b))) eb_rok ?_
  rintro _ _ ⟨rfl, rfl⟩
  show ez_P _ _ _ _ _ _ 5 [(0, .ref i), (1, .int (nI b))] (.int 1 :: []) _ _
  refine ez_if_ne (tgt := 10) dX7_ease_5 (by decide) (fun c1 => ?_) (fun c1 => absurd (by decide) c1)
  refine ez_aload_n (i := 0) dX7_ease_10 rfl rfl ?_
  refine ez_getR dX7_ease_11 flX7_9 h.i0 h.1 h.2.2.2.2.1 ?_
  refine ez_iload_n (i := 1) dX7_ease_14 rfl rfl ?_
  refine ez_iaN dX7_ease_15 h.i1 h.2.1 (by omega) (by decide) ?_
  refine ez_if_ne (tgt := 22) dX7_ease_16 (by decide) (fun c2 => ?_) (fun c2 => absurd hz c2)
  refine ez_aload_n (i := 0) dX7_ease_22 rfl rfl ?_
  refine ez_getR dX7_ease_23 flX7_9 h.i0 h.1 h.2.2.2.2.1 ?_
  refine ez_iload_n (i := 1) dX7_ease_26 rfl rfl ?_
  refine ez_dup2 dX7_ease_27 rfl rfl ?_
  refine ez_iaN dX7_ease_28 h.i1 h.2.1 (by omega) (by decide) ?_
  refine ez_iconst (v := 1) dX7_ease_29 (by decide) ?_
  refine ez_isub dX7_ease_30 ?_
  refine ez_isN dX7_ease_31 h.i1 (by have := h.x; omega) h.2.1 (by omega) (by decide) ?_
  refine ez_nmI (fun I3 hI3 => ?_)
  refine ez_aload_n (i := 0) dX7_ease_32 rfl rfl ?_
  refine ez_getR dX7_ease_33 flX7_9 h.i0 h.1 h.2.2.2.2.1 ?_
  refine ez_iload_n (i := 1) dX7_ease_36 rfl rfl ?_
  refine ez_iaN dX7_ease_37 h.i1 h.2.1 (by omega) (by decide) ?_
  refine ez_iret dX7_ease_38 rfl rfl ?_
  exact ⟨by simp_all, by simp_all [z_set]⟩
theorem y_X7_ease_nz {n : Nat} {sl : Nat × Nat} {kd : Nat → Nat × Nat} {I : Nat → Nat → Int32} {L : Nat → Nat → Int64} {Rf : Nat → Nat → Option Nat} (d : Nat) {i b c : Nat} (h : eb_shp n kd Rf i) (hr : 21 ≤ i ∧ i ≤ 88) (hc : I i 3 = nI c) (hc7 : c ≤ 7) (hb : b < c) (hz : I (i + 1) b = 0) : zq mX7_ease (d + 1) [.ref i, .int (nI b)] (n, sl, kd, I, L, Rf) (eb_r (-2) (n, sl, kd, I, L, Rf)) := by
  intro f B
  refine ez_meth pn_X.2.2.2.2.2.2.2.1 (Nat.le_of_ble_eq_true rfl) ?_
  show ez_P _ _ _ _ mX7_ease (d + 1) 0 [(0, .ref i), (1, .int (nI b))] [] (n, sl, kd, I, L, Rf) _
  refine ez_aload_n (i := 0) dX7_ease_0 rfl rfl ?_
  refine ez_iload_n (i := 1) dX7_ease_1 rfl rfl ?_
  refine ez_callV (M1 := mX7_has) (rest := []) dX7_ease_2 mlX7_56 mvX7_has rfl h.i0 h.1 (Nat.le_of_ble_eq_true rfl) rfl (zq_b1 ⟨nI_pos' (by omega), by rw [hc]; exact nI_lt hb (by omega)⟩ (y_X7_has d h hr (nI b))) eb_rok ?_
  rintro _ _ ⟨rfl, rfl⟩
  show ez_P _ _ _ _ _ _ 5 [(0, .ref i), (1, .int (nI b))] (.int 1 :: []) _ _
  refine ez_if_ne (tgt := 10) dX7_ease_5 (by decide) (fun c1 => ?_) (fun c1 => absurd (by decide) c1)
  refine ez_aload_n (i := 0) dX7_ease_10 rfl rfl ?_
  refine ez_getR dX7_ease_11 flX7_9 h.i0 h.1 h.2.2.2.2.1 ?_
  refine ez_iload_n (i := 1) dX7_ease_14 rfl rfl ?_
  refine ez_iaN dX7_ease_15 h.i1 h.2.1 (by omega) (by decide) ?_
  refine ez_if_ne (tgt := 22) dX7_ease_16 (by decide) (fun c2 => absurd c2 (fun g => g hz)) (fun c2 => ?_)
  refine ez_bipush (v := (-2)) dX7_ease_19 (by decide) ?_
  refine ez_iret dX7_ease_21 rfl rfl ?_
  exact ⟨rfl, rfl⟩
theorem y_X7_ease_no {n : Nat} {sl : Nat × Nat} {kd : Nat → Nat × Nat} {I : Nat → Nat → Int32} {L : Nat → Nat → Int64} {Rf : Nat → Nat → Option Nat} (d : Nat) {i : Nat} (h : eb_shp n kd Rf i) (hr : 21 ≤ i ∧ i ≤ 88) (b : Int32) (hno : ¬ (0 ≤ b ∧ b < I i 3))  : zq mX7_ease (d + 1) [.ref i, .int b] (n, sl, kd, I, L, Rf) (eb_r (-1) (n, sl, kd, I, L, Rf)) := by
  intro f B
  refine ez_meth pn_X.2.2.2.2.2.2.2.1 (Nat.le_of_ble_eq_true rfl) ?_
  show ez_P _ _ _ _ mX7_ease (d + 1) 0 [(0, .ref i), (1, .int b)] [] (n, sl, kd, I, L, Rf) _
  refine ez_aload_n (i := 0) dX7_ease_0 rfl rfl ?_
  refine ez_iload_n (i := 1) dX7_ease_1 rfl rfl ?_
  refine ez_callV (M1 := mX7_has) (rest := []) dX7_ease_2 mlX7_56 mvX7_has rfl h.i0 h.1 (Nat.le_of_ble_eq_true rfl) rfl (zq_b0 hno (y_X7_has d h hr b)) eb_rok ?_
  rintro _ _ ⟨rfl, rfl⟩
  show ez_P _ _ _ _ _ _ 5 [(0, .ref i), (1, .int b)] (.int 0 :: []) _ _
  refine ez_if_ne (tgt := 10) dX7_ease_5 (by decide) (fun c1 => absurd c1 (by decide)) (fun c1 => ?_)
  refine ez_iconst (v := (-1)) dX7_ease_8 (by decide) ?_
  refine ez_iret dX7_ease_9 rfl rfl ?_
  exact ⟨rfl, rfl⟩
theorem y_X7_preach_ok {n : Nat} {sl : Nat × Nat} {kd : Nat → Nat × Nat} {I : Nat → Nat → Int32} {L : Nat → Nat → Int64} {Rf : Nat → Nat → Option Nat} (d : Nat) {i b c : Nat} (h : eb_shp n kd Rf i) (hr : 21 ≤ i ∧ i ≤ 88) (hc : I i 3 = nI c) (hc7 : c ≤ 7) (hb : b < c) {x : Int32} (hx : 1 ≤ x ∧ x ≤ 9) (hz : I (i + 1) b ≠ 9) : zq mX7_preach (d + 1) [.ref i, .int (nI b), .int x] (n, sl, kd, I, L, Rf) (fun r τ => τ = (n, sl, kd, z_set I (i + 1) b (if 9 < I (i + 1) b + x then 9 else I (i + 1) b + x), L, Rf) ∧ r = some (.int (if 9 < I (i + 1) b + x then 9 else I (i + 1) b + x))) := by
  intro f B
  refine ez_meth pn_X.2.2.2.2.2.2.2.1 (Nat.le_of_ble_eq_true rfl) ?_
  show ez_P _ _ _ _ mX7_preach (d + 1) 0 [(0, .ref i), (1, .int (nI b)), (2, .int x)] [] (n, sl, kd, I, L, Rf) _
  refine ez_aload_n (i := 0) dX7_preach_0 rfl rfl ?_
  refine ez_iload_n (i := 1) dX7_preach_1 rfl rfl ?_
  refine ez_callV (M1 := mX7_has) (rest := []) dX7_preach_2 mlX7_56 mvX7_has rfl h.i0 h.1 (Nat.le_of_ble_eq_true rfl) rfl (zq_b1 ⟨nI_pos' (by omega), by rw [hc]; exact nI_lt hb (by omega)⟩ (y_X7_has d h hr (nI b))) eb_rok ?_
  rintro _ _ ⟨rfl, rfl⟩
  show ez_P _ _ _ _ _ _ 5 [(0, .ref i), (1, .int (nI b)), (2, .int x)] (.int 1 :: []) _ _
  refine ez_if_eq (tgt := 18) dX7_preach_5 (by decide) (fun c1 => absurd c1 (by decide)) (fun c1 => ?_)
  refine ez_iload_n (i := 2) dX7_preach_8 rfl rfl ?_
  refine ez_iconst (v := 1) dX7_preach_9 (by decide) ?_
  refine ez_bipush (v := 9) dX7_preach_10 (by decide) ?_
  refine ez_callS (M1 := mX10_within) (rest := []) dX7_preach_12 mlX7_60 msX10_within rfl (Nat.le_of_ble_eq_true rfl) rfl (zq_b1 hx (zq_b (q_X10_within d x 1 9) (n, sl, kd, I, L, Rf))) eb_rok ?_
  rintro _ _ ⟨rfl, rfl⟩
  show ez_P _ _ _ _ _ _ 15 [(0, .ref i), (1, .int (nI b)), (2, .int x)] (.int 1 :: []) _ _
  refine ez_if_ne (tgt := 20) dX7_preach_15 (by decide) (fun c2 => ?_) (fun c2 => absurd (by decide) c2)
  refine ez_aload_n (i := 0) dX7_preach_20 rfl rfl ?_
  refine ez_getR dX7_preach_21 flX7_9 h.i0 h.1 h.2.2.2.2.1 ?_
  refine ez_iload_n (i := 1) dX7_preach_24 rfl rfl ?_
  refine ez_iaN dX7_preach_25 h.i1 h.2.1 (by omega) (by decide) ?_
  refine ez_bipush (v := 9) dX7_preach_26 (by decide) ?_
  refine ez_icmp_ne (tgt := 34) dX7_preach_28 (by decide) (fun c3 => ?_) (fun c3 => absurd hz c3)
  refine ez_aload_n (i := 0) dX7_preach_34 rfl rfl ?_
  refine ez_getR dX7_preach_35 flX7_9 h.i0 h.1 h.2.2.2.2.1 ?_
  refine ez_iload_n (i := 1) dX7_preach_38 rfl rfl ?_
  refine ez_aload_n (i := 0) dX7_preach_39 rfl rfl ?_
  refine ez_getR dX7_preach_40 flX7_9 h.i0 h.1 h.2.2.2.2.1 ?_
  refine ez_iload_n (i := 1) dX7_preach_43 rfl rfl ?_
  refine ez_iaN dX7_preach_44 h.i1 h.2.1 (by omega) (by decide) ?_
  refine ez_iload_n (i := 2) dX7_preach_45 rfl rfl ?_
  refine ez_iadd dX7_preach_46 ?_
  refine ez_bipush (v := 9) dX7_preach_47 (by decide) ?_
  refine ez_min dX7_preach_49 xmX7_69 (Nat.le_of_ble_eq_true rfl) ?_
  refine ez_isN dX7_preach_52 h.i1 (by have := h.x; omega) h.2.1 (by omega) (by decide) ?_
  refine ez_nmI (fun I4 hI4 => ?_)
  refine ez_aload_n (i := 0) dX7_preach_53 rfl rfl ?_
  refine ez_getR dX7_preach_54 flX7_9 h.i0 h.1 h.2.2.2.2.1 ?_
  refine ez_iload_n (i := 1) dX7_preach_57 rfl rfl ?_
  refine ez_iaN dX7_preach_58 h.i1 h.2.1 (by omega) (by decide) ?_
  refine ez_iret dX7_preach_59 rfl rfl ?_
  exact ⟨by simp_all, by simp_all [z_set]⟩
theorem y_X7_preach_nz {n : Nat} {sl : Nat × Nat} {kd : Nat → Nat × Nat} {I : Nat → Nat → Int32} {L : Nat → Nat → Int64} {Rf : Nat → Nat → Option Nat} (d : Nat) {i b c : Nat} (h : eb_shp n kd Rf i) (hr : 21 ≤ i ∧ i ≤ 88) (hc : I i 3 = nI c) (hc7 : c ≤ 7) (hb : b < c) {x : Int32} (hx : 1 ≤ x ∧ x ≤ 9) (hz : I (i + 1) b = 9) : zq mX7_preach (d + 1) [.ref i, .int (nI b), .int x] (n, sl, kd, I, L, Rf) (eb_r (-2) (n, sl, kd, I, L, Rf)) := by
  intro f B
  refine ez_meth pn_X.2.2.2.2.2.2.2.1 (Nat.le_of_ble_eq_true rfl) ?_
  show ez_P _ _ _ _ mX7_preach (d + 1) 0 [(0, .ref i), (1, .int (nI b)), (2, .int x)] [] (n, sl, kd, I, L, Rf) _
  refine ez_aload_n (i := 0) dX7_preach_0 rfl rfl ?_
  refine ez_iload_n (i := 1) dX7_preach_1 rfl rfl ?_
  refine ez_callV (M1 := mX7_has) (rest := []) dX7_preach_2 mlX7_56 mvX7_has rfl h.i0 h.1 (Nat.le_of_ble_eq_true rfl) rfl (zq_b1 ⟨nI_pos' (by omega), by rw [hc]; exact nI_lt hb (by omega)⟩ (y_X7_has d h hr (nI b))) eb_rok ?_
  rintro _ _ ⟨rfl, rfl⟩
  show ez_P _ _ _ _ _ _ 5 [(0, .ref i), (1, .int (nI b)), (2, .int x)] (.int 1 :: []) _ _
  refine ez_if_eq (tgt := 18) dX7_preach_5 (by decide) (fun c1 => absurd c1 (by decide)) (fun c1 => ?_)
  refine ez_iload_n (i := 2) dX7_preach_8 rfl rfl ?_
  refine ez_iconst (v := 1) dX7_preach_9 (by decide) ?_
  refine ez_bipush (v := 9) dX7_preach_10 (by decide) ?_
  refine ez_callS (M1 := mX10_within) (rest := []) dX7_preach_12 mlX7_60 msX10_within rfl (Nat.le_of_ble_eq_true rfl) rfl (zq_b1 hx (zq_b (q_X10_within d x 1 9) (n, sl, kd, I, L, Rf))) eb_rok ?_
  rintro _ _ ⟨rfl, rfl⟩
  show ez_P _ _ _ _ _ _ 15 [(0, .ref i), (1, .int (nI b)), (2, .int x)] (.int 1 :: []) _ _
  refine ez_if_ne (tgt := 20) dX7_preach_15 (by decide) (fun c2 => ?_) (fun c2 => absurd (by decide) c2)
  refine ez_aload_n (i := 0) dX7_preach_20 rfl rfl ?_
  refine ez_getR dX7_preach_21 flX7_9 h.i0 h.1 h.2.2.2.2.1 ?_
  refine ez_iload_n (i := 1) dX7_preach_24 rfl rfl ?_
  refine ez_iaN dX7_preach_25 h.i1 h.2.1 (by omega) (by decide) ?_
  refine ez_bipush (v := 9) dX7_preach_26 (by decide) ?_
  refine ez_icmp_ne (tgt := 34) dX7_preach_28 (by decide) (fun c3 => absurd c3 (fun g => g hz)) (fun c3 => ?_)
  refine ez_bipush (v := (-2)) dX7_preach_31 (by decide) ?_
  refine ez_iret dX7_preach_33 rfl rfl ?_
  exact ⟨rfl, rfl⟩
theorem y_X7_preach_no {n : Nat} {sl : Nat × Nat} {kd : Nat → Nat × Nat} {I : Nat → Nat → Int32} {L : Nat → Nat → Int64} {Rf : Nat → Nat → Option Nat} (d : Nat) {i : Nat} (h : eb_shp n kd Rf i) (hr : 21 ≤ i ∧ i ≤ 88) (b : Int32) (hno : ¬ (0 ≤ b ∧ b < I i 3)) (x : Int32) : zq mX7_preach (d + 1) [.ref i, .int b, .int x] (n, sl, kd, I, L, Rf) (eb_r (-1) (n, sl, kd, I, L, Rf)) := by
  intro f B
  refine ez_meth pn_X.2.2.2.2.2.2.2.1 (Nat.le_of_ble_eq_true rfl) ?_
  show ez_P _ _ _ _ mX7_preach (d + 1) 0 [(0, .ref i), (1, .int b), (2, .int x)] [] (n, sl, kd, I, L, Rf) _
  refine ez_aload_n (i := 0) dX7_preach_0 rfl rfl ?_
  refine ez_iload_n (i := 1) dX7_preach_1 rfl rfl ?_
  refine ez_callV (M1 := mX7_has) (rest := []) dX7_preach_2 mlX7_56 mvX7_has rfl h.i0 h.1 (Nat.le_of_ble_eq_true rfl) rfl (zq_b0 hno (y_X7_has d h hr b)) eb_rok ?_
  rintro _ _ ⟨rfl, rfl⟩
  show ez_P _ _ _ _ _ _ 5 [(0, .ref i), (1, .int b), (2, .int x)] (.int 0 :: []) _ _
  refine ez_if_eq (tgt := 18) dX7_preach_5 (by decide) (fun c1 => ?_) (fun c1 => absurd (by decide) c1)
  refine ez_iconst (v := (-1)) dX7_preach_18 (by decide) ?_
  refine ez_iret dX7_preach_19 rfl rfl ?_
  exact ⟨rfl, rfl⟩
theorem y_X7_preach_nx {n : Nat} {sl : Nat × Nat} {kd : Nat → Nat × Nat} {I : Nat → Nat → Int32} {L : Nat → Nat → Int64} {Rf : Nat → Nat → Option Nat} (d : Nat) {i b c : Nat} (h : eb_shp n kd Rf i) (hr : 21 ≤ i ∧ i ≤ 88) (hc : I i 3 = nI c) (hc7 : c ≤ 7) (hb : b < c) {x : Int32} (hx : ¬ (1 ≤ x ∧ x ≤ 9)) : zq mX7_preach (d + 1) [.ref i, .int (nI b), .int x] (n, sl, kd, I, L, Rf) (eb_r (-1) (n, sl, kd, I, L, Rf)) := by
  intro f B
  refine ez_meth pn_X.2.2.2.2.2.2.2.1 (Nat.le_of_ble_eq_true rfl) ?_
  show ez_P _ _ _ _ mX7_preach (d + 1) 0 [(0, .ref i), (1, .int (nI b)), (2, .int x)] [] (n, sl, kd, I, L, Rf) _
  refine ez_aload_n (i := 0) dX7_preach_0 rfl rfl ?_
  refine ez_iload_n (i := 1) dX7_preach_1 rfl rfl ?_
  refine ez_callV (M1 := mX7_has) (rest := []) dX7_preach_2 mlX7_56 mvX7_has rfl h.i0 h.1 (Nat.le_of_ble_eq_true rfl) rfl (zq_b1 ⟨nI_pos' (by omega), by rw [hc]; exact nI_lt hb (by omega)⟩ (y_X7_has d h hr (nI b))) eb_rok ?_
  rintro _ _ ⟨rfl, rfl⟩
  show ez_P _ _ _ _ _ _ 5 [(0, .ref i), (1, .int (nI b)), (2, .int x)] (.int 1 :: []) _ _
  refine ez_if_eq (tgt := 18) dX7_preach_5 (by decide) (fun c1 => absurd c1 (by decide)) (fun c1 => ?_)
  refine ez_iload_n (i := 2) dX7_preach_8 rfl rfl ?_
  refine ez_iconst (v := 1) dX7_preach_9 (by decide) ?_
  refine ez_bipush (v := 9) dX7_preach_10 (by decide) ?_
  refine ez_callS (M1 := mX10_within) (rest := []) dX7_preach_12 mlX7_60 msX10_within rfl (Nat.le_of_ble_eq_true rfl) rfl (zq_b0 hx (zq_b (q_X10_within d x 1 9) (n, sl, kd, I, L, Rf))) eb_rok ?_
  rintro _ _ ⟨rfl, rfl⟩
  show ez_P _ _ _ _ _ _ 15 [(0, .ref i), (1, .int (nI b)), (2, .int x)] (.int 0 :: []) _ _
  refine ez_if_ne (tgt := 20) dX7_preach_15 (by decide) (fun c2 => absurd c2 (by decide)) (fun c2 => ?_)
  refine ez_iconst (v := (-1)) dX7_preach_18 (by decide) ?_
  refine ez_iret dX7_preach_19 rfl rfl ?_
  exact ⟨rfl, rfl⟩
theorem y_X7_setSail_ok {n : Nat} {sl : Nat × Nat} {kd : Nat → Nat × Nat} {I : Nat → Nat → Int32} {L : Nat → Nat → Int64} {Rf : Nat → Nat → Option Nat} (d : Nat) {i : Nat} (h : eb_shp n kd Rf i) (hr : 21 ≤ i ∧ i ≤ 88) {x : Int32} (hx : 0 ≤ x ∧ x ≤ 9) : zq mX7_setSail (d + 1) [.ref i, .int x] (n, sl, kd, I, L, Rf) (fun r τ => τ = (n, sl, kd, z_set I (i) 4 x, L, Rf) ∧ r = some (.int (if I i 4 = x then -2 else 10 + I i 4))) := by
  intro f B
  refine ez_meth pn_X.2.2.2.2.2.2.2.1 (Nat.le_of_ble_eq_true rfl) ?_
  show ez_P _ _ _ _ mX7_setSail (d + 1) 0 [(0, .ref i), (1, .int x)] [] (n, sl, kd, I, L, Rf) _
  refine ez_iload_n (i := 1) dX7_setSail_0 rfl rfl ?_
  refine ez_iconst (v := 0) dX7_setSail_1 (by decide) ?_
  refine ez_bipush (v := 9) dX7_setSail_2 (by decide) ?_
  refine ez_callS (M1 := mX10_within) (rest := []) dX7_setSail_4 mlX7_60 msX10_within rfl (Nat.le_of_ble_eq_true rfl) rfl (zq_b1 hx (zq_b (q_X10_within d x 0 9) (n, sl, kd, I, L, Rf))) eb_rok ?_
  rintro _ _ ⟨rfl, rfl⟩
  show ez_P _ _ _ _ _ _ 7 [(0, .ref i), (1, .int x)] (.int 1 :: []) _ _
  refine ez_if_ne (tgt := 12) dX7_setSail_7 (by decide) (fun c1 => ?_) (fun c1 => absurd (by decide) c1)
  refine ez_aload_n (i := 0) dX7_setSail_12 rfl rfl ?_
  refine ez_getI dX7_setSail_13 flX7_21 h.i0 h.1 ?_
  refine ez_istore_n (l' := [(2, .int (I i 4)), (0, .ref i), (1, .int x)]) dX7_setSail_16 rfl (by decide) rfl ?_
  refine ez_aload_n (i := 0) dX7_setSail_17 rfl rfl ?_
  refine ez_iload_n (i := 1) dX7_setSail_18 rfl rfl ?_
  refine ez_pI dX7_setSail_19 plX7_21 h.i0 (by have := h.x; omega) h.1 rfl rfl ?_
  refine ez_nmI (fun I2 hI2 => ?_)
  refine ez_iload_n (i := 2) dX7_setSail_22 rfl rfl ?_
  refine ez_iload_n (i := 1) dX7_setSail_23 rfl rfl ?_
  refine ez_icmp_ne (tgt := 32) dX7_setSail_24 (by decide) (fun c3 => ?_) (fun c3 => ?_)
  · skip
    refine ez_bipush (v := 10) dX7_setSail_32 (by decide) ?_
    refine ez_iload_n (i := 2) dX7_setSail_34 rfl rfl ?_
    refine ez_iadd dX7_setSail_35 ?_
    refine ez_iret dX7_setSail_36 rfl rfl ?_
    exact ⟨by simp_all, by simp_all⟩
  · skip
    refine ez_bipush (v := (-2)) dX7_setSail_27 (by decide) ?_
    refine ez_goto (tgt := 36) dX7_setSail_29 (by decide) ?_
    refine ez_iret dX7_setSail_36 rfl rfl ?_
    exact ⟨by simp_all, by simp_all⟩
theorem y_X7_setSail_nx {n : Nat} {sl : Nat × Nat} {kd : Nat → Nat × Nat} {I : Nat → Nat → Int32} {L : Nat → Nat → Int64} {Rf : Nat → Nat → Option Nat} (d : Nat) {i : Nat} (h : eb_shp n kd Rf i) (hr : 21 ≤ i ∧ i ≤ 88) {x : Int32} (hx : ¬ (0 ≤ x ∧ x ≤ 9)) : zq mX7_setSail (d + 1) [.ref i, .int x] (n, sl, kd, I, L, Rf) (eb_r (-1) (n, sl, kd, I, L, Rf)) := by
  intro f B
  refine ez_meth pn_X.2.2.2.2.2.2.2.1 (Nat.le_of_ble_eq_true rfl) ?_
  show ez_P _ _ _ _ mX7_setSail (d + 1) 0 [(0, .ref i), (1, .int x)] [] (n, sl, kd, I, L, Rf) _
  refine ez_iload_n (i := 1) dX7_setSail_0 rfl rfl ?_
  refine ez_iconst (v := 0) dX7_setSail_1 (by decide) ?_
  refine ez_bipush (v := 9) dX7_setSail_2 (by decide) ?_
  refine ez_callS (M1 := mX10_within) (rest := []) dX7_setSail_4 mlX7_60 msX10_within rfl (Nat.le_of_ble_eq_true rfl) rfl (zq_b0 hx (zq_b (q_X10_within d x 0 9) (n, sl, kd, I, L, Rf))) eb_rok ?_
  rintro _ _ ⟨rfl, rfl⟩
  show ez_P _ _ _ _ _ _ 7 [(0, .ref i), (1, .int x)] (.int 0 :: []) _ _
  refine ez_if_ne (tgt := 12) dX7_setSail_7 (by decide) (fun c1 => absurd c1 (by decide)) (fun c1 => ?_)
  refine ez_iconst (v := (-1)) dX7_setSail_10 (by decide) ?_
  refine ez_iret dX7_setSail_11 rfl rfl ?_
  exact ⟨rfl, rfl⟩
theorem y_X7_copy {n : Nat} {sl : Nat × Nat} {kd : Nat → Nat × Nat} {I : Nat → Nat → Int32} {L : Nat → Nat → Int64} {Rf : Nat → Nat → Option Nat} (d : Nat) {i j c : Nat} (h : eb_shp n kd Rf i) (hr : 21 ≤ i ∧ i ≤ 88) (g : eb_shp n kd Rf j) (hr2 : 21 ≤ j ∧ j ≤ 88) (hij : i + 4 ≤ j ∨ j + 4 ≤ i) (hc : I j 3 = nI c) (hc7 : c ≤ 7) : zq mX7_copy d [.ref i, .ref j] (n, sl, kd, I, L, Rf) (eb_v (n, sl, kd, z_cp I i j c, L, Rf)) := by
  intro f B
  refine ez_meth pn_X.2.2.2.2.2.2.2.1 (Nat.le_of_ble_eq_true rfl) ?_
  show ez_P _ _ _ _ mX7_copy (d) 0 [(0, .ref i), (1, .ref j)] [] (n, sl, kd, I, L, Rf) _
  refine ez_iconst (v := 0) dX7_copy_0 (by decide) ?_
  refine ez_istore_n (l' := [(2, .int 0), (0, .ref i), (1, .ref j)]) dX7_copy_1 rfl (by decide) rfl ?_
  refine ez_eq (σ2 := (n, sl, kd, z_ca I i j 0, L, Rf)) rfl rfl rfl (by rw [z_ca0]) ?_
  refine ez_eq (l2 := [(2, .int (nI 0)), (0, .ref i), (1, .ref j)]) (σ2 := (n, sl, kd, z_ca I i j 0, L, Rf)) rfl (by rw [nI_0]) rfl rfl ?_
  refine ez_for c (fun k (a : Unit) => ([(2, .int (nI k)), (0, .ref i), (1, .ref j)], (n, sl, kd, z_ca I i j k, L, Rf))) (fun k a => True) ?_ ?_ c 0 () (by omega) trivial
  · intro k a hk hinv ih
    show ez_P _ _ _ _ _ _ 2 [(2, .int (nI k)), (0, .ref i), (1, .ref j)] [] (n, sl, kd, z_ca I i j k, L, Rf) _
    refine ez_iload_n (i := 2) dX7_copy_2 rfl rfl ?_
    refine ez_aload_n (i := 1) dX7_copy_3 rfl rfl ?_
    refine ez_getI dX7_copy_4 flX7_25 g.i0 g.1 ?_
    refine ez_icmp_ge (tgt := 52) dX7_copy_7 (by decide) (fun c1 => absurd c1 (by rw [z_crew h g hij, hc]; exact nI_ge hk (by omega))) (fun c1 => ?_)
    refine ez_aload_n (i := 0) dX7_copy_10 rfl rfl ?_
    refine ez_getR dX7_copy_11 flX7_9 h.i0 h.1 h.2.2.2.2.1 ?_
    refine ez_iload_n (i := 2) dX7_copy_14 rfl rfl ?_
    refine ez_aload_n (i := 1) dX7_copy_15 rfl rfl ?_
    refine ez_getR dX7_copy_16 flX7_9 g.i0 g.1 g.2.2.2.2.1 ?_
    refine ez_iload_n (i := 2) dX7_copy_19 rfl rfl ?_
    refine ez_iaN dX7_copy_20 g.i1 g.2.1 (by omega) (by decide) ?_
    refine ez_isN dX7_copy_21 h.i1 (by have := h.x; omega) h.2.1 (by omega) (by decide) ?_
    refine ez_nmI (fun I2 hI2 => ?_)
    refine ez_aload_n (i := 0) dX7_copy_22 rfl rfl ?_
    refine ez_getR dX7_copy_23 flX7_15 h.i0 h.1 h.2.2.2.2.2.1 ?_
    refine ez_iload_n (i := 2) dX7_copy_26 rfl rfl ?_
    refine ez_aload_n (i := 1) dX7_copy_27 rfl rfl ?_
    refine ez_getR dX7_copy_28 flX7_15 g.i0 g.1 g.2.2.2.2.2.1 ?_
    refine ez_iload_n (i := 2) dX7_copy_31 rfl rfl ?_
    refine ez_iaN dX7_copy_32 g.i2 g.2.2.1 (by omega) (by decide) ?_
    refine ez_isN dX7_copy_33 h.i2 (by have := h.x; omega) h.2.2.1 (by omega) (by decide) ?_
    refine ez_nmI (fun I3 hI3 => ?_)
    refine ez_aload_n (i := 0) dX7_copy_34 rfl rfl ?_
    refine ez_getR dX7_copy_35 flX7_18 h.i0 h.1 h.2.2.2.2.2.2.1 ?_
    refine ez_iload_n (i := 2) dX7_copy_38 rfl rfl ?_
    refine ez_aload_n (i := 1) dX7_copy_39 rfl rfl ?_
    refine ez_getR dX7_copy_40 flX7_18 g.i0 g.1 g.2.2.2.2.2.2.1 ?_
    refine ez_iload_n (i := 2) dX7_copy_43 rfl rfl ?_
    refine ez_iaN dX7_copy_44 g.i3 g.2.2.2.1 (by omega) (by decide) ?_
    refine ez_isN dX7_copy_45 h.i3 (by have := h.x; omega) h.2.2.2.1 (by omega) (by decide) ?_
    refine ez_nmI (fun I4 hI4 => ?_)
    refine ez_iinc (v := (nI (k + 1))) (l' := [(2, .int ((nI (k + 1)))), (0, .ref i), (1, .ref j)]) dX7_copy_46 rfl (nI_1 _) (by decide) rfl ?_
    refine ez_goto (tgt := 2) dX7_copy_49 (by decide) ?_
    refine ez_eq (l2 := [(2, .int (nI (k + 1))), (0, .ref i), (1, .ref j)]) (σ2 := (n, sl, kd, z_ca I i j (k + 1), L, Rf)) rfl rfl rfl ?_ (ih () trivial)
    clear ih; congr 4; subst_vars; funext a q; have e1 : ¬ j = i := (by omega); have e2 : ¬ j = i + 1 := (by omega); have e3 : ¬ j = i + 2 := (by omega); have e4 : ¬ j + 1 = i := (by omega); have e5 : ¬ j + 2 = i := (by omega)
    by_cases h1 : a = i + 1 <;> by_cases h2 : a = i + 2 <;> by_cases h3 : a = i + 3 <;> by_cases hq : q = k <;> by_cases hq2 : q < k <;> (first | omega | skip) <;> simp_all [z_set, z_ca, Nat.lt_succ_iff_lt_or_eq] <;> (try omega)
  · intro a hinv
    show ez_P _ _ _ _ _ _ 2 [(2, .int (nI c)), (0, .ref i), (1, .ref j)] [] (n, sl, kd, z_ca I i j c, L, Rf) _
    refine ez_iload_n (i := 2) dX7_copy_2 rfl rfl ?_
    refine ez_aload_n (i := 1) dX7_copy_3 rfl rfl ?_
    refine ez_getI dX7_copy_4 flX7_25 g.i0 g.1 ?_
    refine ez_icmp_ge (tgt := 52) dX7_copy_7 (by decide) (fun c5 => ?_) (fun c5 => absurd (by rw [z_crew h g hij, hc]; exact nI_le (Nat.le_refl _) (by omega)) c5)
    refine ez_aload_n (i := 0) dX7_copy_52 rfl rfl ?_
    refine ez_aload_n (i := 1) dX7_copy_53 rfl rfl ?_
    refine ez_getI dX7_copy_54 flX7_25 g.i0 g.1 ?_
    refine ez_pI dX7_copy_57 plX7_25 h.i0 (by have := h.x; omega) h.1 rfl rfl ?_
    refine ez_nmI (fun I6 hI6 => ?_)
    refine ez_aload_n (i := 0) dX7_copy_60 rfl rfl ?_
    refine ez_aload_n (i := 1) dX7_copy_61 rfl rfl ?_
    refine ez_getI dX7_copy_62 flX7_21 g.i0 g.1 ?_
    refine ez_pI dX7_copy_65 plX7_21 h.i0 (by have := h.x; omega) h.1 rfl rfl ?_
    refine ez_nmI (fun I7 hI7 => ?_)
    refine ez_aload_n (i := 0) dX7_copy_68 rfl rfl ?_
    refine ez_aload_n (i := 1) dX7_copy_69 rfl rfl ?_
    refine ez_getI dX7_copy_70 flX7_28 g.i0 g.1 ?_
    refine ez_pI dX7_copy_73 plX7_28 h.i0 (by have := h.x; omega) h.1 rfl rfl ?_
    refine ez_nmI (fun I8 hI8 => ?_)
    refine ez_aload_n (i := 0) dX7_copy_76 rfl rfl ?_
    refine ez_aload_n (i := 1) dX7_copy_77 rfl rfl ?_
    refine ez_getI dX7_copy_78 flX7_31 g.i0 g.1 ?_
    refine ez_pI dX7_copy_81 plX7_31 h.i0 (by have := h.x; omega) h.1 rfl rfl ?_
    refine ez_nmI (fun I9 hI9 => ?_)
    refine ez_aload_n (i := 0) dX7_copy_84 rfl rfl ?_
    refine ez_aload_n (i := 1) dX7_copy_85 rfl rfl ?_
    refine ez_getI dX7_copy_86 flX7_34 g.i0 g.1 ?_
    refine ez_pI dX7_copy_89 plX7_34 h.i0 (by have := h.x; omega) h.1 rfl rfl ?_
    refine ez_nmI (fun I10 hI10 => ?_)
    refine ez_aload_n (i := 0) dX7_copy_92 rfl rfl ?_
    refine ez_aload_n (i := 1) dX7_copy_93 rfl rfl ?_
    refine ez_getI dX7_copy_94 flX7_37 g.i0 g.1 ?_
    refine ez_pI dX7_copy_97 plX7_37 h.i0 (by have := h.x; omega) h.1 rfl rfl ?_
    refine ez_nmI (fun I11 hI11 => ?_)
    refine ez_vret dX7_copy_100 rfl ?_
    refine ⟨?_, rfl⟩; congr 4; subst_vars; funext a q; have e1 : ¬ j = i := (by omega); have e2 : ¬ j = i + 1 := (by omega); have e3 : ¬ j = i + 2 := (by omega); have e4 : ¬ j = i + 3 := (by omega); by_cases h1 : a = i <;> simp_all [z_set, z_ca, z_cp] <;> (by_cases q3 : q = 3 <;> by_cases q4 : q = 4 <;> by_cases q5 : q = 5 <;> by_cases q6 : q = 6 <;> by_cases q7 : q = 7 <;> by_cases q8 : q = 8 <;> (first | omega | simp_all) <;> omega)
theorem y_X8_add_ok {n : Nat} {sl : Nat × Nat} {kd : Nat → Nat × Nat} {I : Nat → Nat → Int32} {L : Nat → Nat → Int64} {Rf : Nat → Nat → Option Nat} (d : Nat) {i m : Nat} (h : eb_tal n kd Rf i m) (hr : 93 ≤ i ∧ i ≤ 97) (hm : m ≤ 12) {k : Nat} (hs : I i 3 = nI k) (hl : k < m) (x y z : Int32) : zq mX8_add d [.ref i, .int x, .int y, .int z] (n, sl, kd, I, L, Rf) (eb_r 1 (n, sl, kd, z_tadd I i k x y z, L, Rf)) := by
  intro f B
  refine ez_meth pn_X.2.2.2.2.2.2.2.2.1 (Nat.le_of_ble_eq_true rfl) ?_
  show ez_P _ _ _ _ mX8_add (d) 0 [(0, .ref i), (1, .int x), (2, .int y), (3, .int z)] [] (n, sl, kd, I, L, Rf) _
  refine ez_aload_n (i := 0) dX8_add_0 rfl rfl ?_
  refine ez_getI dX8_add_1 flX8_25 (by have := h.2.2.2.2.2.2.2.1; omega) h.1 ?_
  refine ez_topE (y := nI k) (by simp_all [z_set]) ?_
  refine ez_aload_n (i := 0) dX8_add_4 rfl rfl ?_
  refine ez_getR dX8_add_5 flX8_13 (by have := h.2.2.2.2.2.2.2.1; omega) h.1 h.2.2.2.2.1 ?_
  refine ez_alen (v := nI m) dX8_add_8 (by have := h.2.2.2.2.2.2.2.1; omega) h.2.1 (by decide) rfl ?_
  refine ez_icmp_lt (tgt := 14) dX8_add_9 (by decide) (fun c1 => ?_) (fun c1 => absurd (nI_lt hl (by omega)) c1)
  refine ez_aload_n (i := 0) dX8_add_14 rfl rfl ?_
  refine ez_getR dX8_add_15 flX8_13 (by have := h.2.2.2.2.2.2.2.1; omega) h.1 h.2.2.2.2.1 ?_
  refine ez_aload_n (i := 0) dX8_add_18 rfl rfl ?_
  refine ez_getI dX8_add_19 flX8_25 (by have := h.2.2.2.2.2.2.2.1; omega) h.1 ?_
  refine ez_topE (y := nI k) (by simp_all [z_set]) ?_
  refine ez_iload_n (i := 1) dX8_add_22 rfl rfl ?_
  refine ez_isN dX8_add_23 (by have := h.2.2.2.2.2.2.2.1; omega) (by have := h.2.2.2.2.2.2.2; omega) h.2.1 hl (by omega) ?_
  refine ez_nmI (fun I2 hI2 => ?_)
  refine ez_aload_n (i := 0) dX8_add_24 rfl rfl ?_
  refine ez_getR dX8_add_25 flX8_19 (by have := h.2.2.2.2.2.2.2.1; omega) h.1 h.2.2.2.2.2.1 ?_
  refine ez_aload_n (i := 0) dX8_add_28 rfl rfl ?_
  refine ez_getI dX8_add_29 flX8_25 (by have := h.2.2.2.2.2.2.2.1; omega) h.1 ?_
  refine ez_topE (y := nI k) (by simp_all [z_set]) ?_
  refine ez_iload_n (i := 2) dX8_add_32 rfl rfl ?_
  refine ez_isN dX8_add_33 (by have := h.2.2.2.2.2.2.2.1; omega) (by have := h.2.2.2.2.2.2.2; omega) h.2.2.1 hl (by omega) ?_
  refine ez_nmI (fun I3 hI3 => ?_)
  refine ez_aload_n (i := 0) dX8_add_34 rfl rfl ?_
  refine ez_getR dX8_add_35 flX8_22 (by have := h.2.2.2.2.2.2.2.1; omega) h.1 h.2.2.2.2.2.2.1 ?_
  refine ez_aload_n (i := 0) dX8_add_38 rfl rfl ?_
  refine ez_getI dX8_add_39 flX8_25 (by have := h.2.2.2.2.2.2.2.1; omega) h.1 ?_
  refine ez_topE (y := nI k) (by simp_all [z_set]) ?_
  refine ez_iload_n (i := 3) dX8_add_42 rfl rfl ?_
  refine ez_isN dX8_add_43 (by have := h.2.2.2.2.2.2.2.1; omega) (by have := h.2.2.2.2.2.2.2; omega) h.2.2.2.1 hl (by omega) ?_
  refine ez_nmI (fun I4 hI4 => ?_)
  refine ez_aload_n (i := 0) dX8_add_44 rfl rfl ?_
  refine ez_dup dX8_add_45 rfl ?_
  refine ez_getI dX8_add_46 flX8_25 (by have := h.2.2.2.2.2.2.2.1; omega) h.1 ?_
  refine ez_topE (y := nI k) (by simp_all [z_set]) ?_
  refine ez_iconst (v := 1) dX8_add_49 (by decide) ?_
  refine ez_iadd dX8_add_50 ?_
  refine ez_topE (y := nI (k + 1)) (nI_1 _) ?_
  refine ez_pI dX8_add_51 plX8_25 (by have := h.2.2.2.2.2.2.2.1; omega) (by have := h.2.2.2.2.2.2.2; omega) h.1 rfl rfl ?_
  refine ez_nmI (fun I5 hI5 => ?_)
  refine ez_iconst (v := 1) dX8_add_54 (by decide) ?_
  refine ez_iret dX8_add_55 rfl (by decide) ?_
  exact ⟨by simp_all [z_tadd], rfl⟩
theorem y_X8_add_no {n : Nat} {sl : Nat × Nat} {kd : Nat → Nat × Nat} {I : Nat → Nat → Int32} {L : Nat → Nat → Int64} {Rf : Nat → Nat → Option Nat} (d : Nat) {i m : Nat} (h : eb_tal n kd Rf i m) (hr : 93 ≤ i ∧ i ≤ 97) (hm : m ≤ 12) (hs : I i 3 = nI m) (x y z : Int32) : zq mX8_add d [.ref i, .int x, .int y, .int z] (n, sl, kd, I, L, Rf) (eb_r 0 (n, sl, kd, I, L, Rf)) := by
  intro f B
  refine ez_meth pn_X.2.2.2.2.2.2.2.2.1 (Nat.le_of_ble_eq_true rfl) ?_
  show ez_P _ _ _ _ mX8_add (d) 0 [(0, .ref i), (1, .int x), (2, .int y), (3, .int z)] [] (n, sl, kd, I, L, Rf) _
  refine ez_aload_n (i := 0) dX8_add_0 rfl rfl ?_
  refine ez_getI dX8_add_1 flX8_25 (by have := h.2.2.2.2.2.2.2.1; omega) h.1 ?_
  refine ez_topE (y := nI m) hs ?_
  refine ez_aload_n (i := 0) dX8_add_4 rfl rfl ?_
  refine ez_getR dX8_add_5 flX8_13 (by have := h.2.2.2.2.2.2.2.1; omega) h.1 h.2.2.2.2.1 ?_
  refine ez_alen (v := nI m) dX8_add_8 (by have := h.2.2.2.2.2.2.2.1; omega) h.2.1 (by decide) rfl ?_
  refine ez_icmp_lt (tgt := 14) dX8_add_9 (by decide) (fun c1 => absurd c1 (fun g => absurd g (by simp [Int32.lt_irrefl]))) (fun c1 => ?_)
  refine ez_iconst (v := 0) dX8_add_12 (by decide) ?_
  refine ez_iret dX8_add_13 rfl (by decide) ?_
  exact ⟨rfl, rfl⟩
theorem y_X8_empty {n : Nat} {sl : Nat × Nat} {kd : Nat → Nat × Nat} {I : Nat → Nat → Int32} {L : Nat → Nat → Int64} {Rf : Nat → Nat → Option Nat} (d : Nat) {i m : Nat} (h : eb_tal n kd Rf i m) (hr : 93 ≤ i ∧ i ≤ 97) (hm : m ≤ 12)  : zq mX8_empty d [.ref i] (n, sl, kd, I, L, Rf) (eb_r (I i 3) (n, sl, kd, z_set I i 3 0, L, Rf)) := by
  intro f B
  refine ez_meth pn_X.2.2.2.2.2.2.2.2.1 (Nat.le_of_ble_eq_true rfl) ?_
  show ez_P _ _ _ _ mX8_empty (d) 0 [(0, .ref i)] [] (n, sl, kd, I, L, Rf) _
  refine ez_aload_n (i := 0) dX8_empty_0 rfl rfl ?_
  refine ez_getI dX8_empty_1 flX8_25 (by have := h.2.2.2.2.2.2.2.1; omega) h.1 ?_
  refine ez_istore_n (l' := [(1, .int (I i 3)), (0, .ref i)]) dX8_empty_4 rfl (by decide) rfl ?_
  refine ez_aload_n (i := 0) dX8_empty_5 rfl rfl ?_
  refine ez_iconst (v := 0) dX8_empty_6 (by decide) ?_
  refine ez_pI dX8_empty_7 plX8_25 (by have := h.2.2.2.2.2.2.2.1; omega) (by have := h.2.2.2.2.2.2.2; omega) h.1 rfl rfl ?_
  refine ez_nmI (fun I1 hI1 => ?_)
  refine ez_iload_n (i := 1) dX8_empty_10 rfl rfl ?_
  refine ez_iret dX8_empty_11 rfl rfl ?_
  exact ⟨by simp_all, rfl⟩
theorem y_X1_start {n : Nat} {sl : Nat × Nat} {kd : Nat → Nat × Nat} {I : Nat → Nat → Int32} {L : Nat → Nat → Int64} {Rf : Nat → Nat → Option Nat} (d : Nat) {i : Nat} (h : (kd i).1 = 1 ∧ i < n ∧ n < 1000000) (hr : i = 101) (x : Int32) : zq mX1_start d [.ref i, .int x] (n, sl, kd, I, L, Rf) (eb_v (n, sl, kd, z_set I i 0 x, L, Rf)) := by
  intro f B
  refine ez_meth pn_X.2.1 (Nat.le_of_ble_eq_true rfl) ?_
  show ez_P _ _ _ _ mX1_start (d) 0 [(0, .ref i), (1, .int x)] [] (n, sl, kd, I, L, Rf) _
  refine ez_aload_n (i := 0) dX1_start_0 rfl rfl ?_
  refine ez_iload_n (i := 1) dX1_start_1 rfl rfl ?_
  refine ez_pI dX1_start_2 plX1_7 h.2.1 (by have := h.2; omega) h.1 rfl rfl ?_
  refine ez_nmI (fun I1 hI1 => ?_)
  refine ez_vret dX1_start_5 rfl ?_
  exact ⟨by simp_all, rfl⟩
theorem y_X1_draw {n : Nat} {sl : Nat × Nat} {kd : Nat → Nat × Nat} {I : Nat → Nat → Int32} {L : Nat → Nat → Int64} {Rf : Nat → Nat → Option Nat} (d : Nat) {i : Nat} (h : (kd i).1 = 1 ∧ i < n ∧ n < 1000000) (hr : i = 101) {m : Int32} (hm : 0 < m) : zq mX1_draw d [.ref i, .int m] (n, sl, kd, I, L, Rf) (eb_r (z_dr (z_lk (I i 0)) m) (n, sl, kd, z_set I i 0 (z_lk (I i 0)), L, Rf)) := by
  intro f B
  refine ez_meth pn_X.2.1 (Nat.le_of_ble_eq_true rfl) ?_
  show ez_P _ _ _ _ mX1_draw (d) 0 [(0, .ref i), (1, .int m)] [] (n, sl, kd, I, L, Rf) _
  refine ez_aload_n (i := 0) dX1_draw_0 rfl rfl ?_
  refine ez_aload_n (i := 0) dX1_draw_1 rfl rfl ?_
  refine ez_getI dX1_draw_2 flX1_7 h.2.1 h.1 ?_
  refine ez_ldc (v := 1103515245) dX1_draw_5 kcX1_13 ?_
  refine ez_imul dX1_draw_7 ?_
  refine ez_sipush (v := 12345) dX1_draw_8 (by decide) ?_
  refine ez_iadd dX1_draw_11 ?_
  refine ez_pI dX1_draw_12 plX1_7 h.2.1 (by have := h.2; omega) h.1 rfl rfl ?_
  refine ez_nmI (fun I1 hI1 => ?_)
  refine ez_iload_n (i := 1) dX1_draw_15 rfl rfl ?_
  refine ez_if_le (tgt := 31) dX1_draw_16 (by decide) (fun c2 => absurd c2 (fun g => by simp only [Int32.lt_iff_toInt_lt, Int32.le_iff_toInt_le] at *; omega)) (fun c2 => ?_)
  refine ez_aload_n (i := 0) dX1_draw_19 rfl rfl ?_
  refine ez_getI dX1_draw_20 flX1_7 h.2.1 h.1 ?_
  refine ez_bipush (v := 16) dX1_draw_23 (by decide) ?_
  refine ez_iushr dX1_draw_25 rfl ?_
  refine ez_iload_n (i := 1) dX1_draw_26 rfl rfl ?_
  refine ez_irem dX1_draw_27 (fun g => by subst g; exact absurd hm (by decide)) ?_
  refine ez_goto (tgt := 32) dX1_draw_28 (by decide) ?_
  refine ez_iret dX1_draw_32 rfl rfl ?_
  exact ⟨by simp_all [z_lk], by simp_all [z_set, z_lk, z_dr]⟩
theorem y_X9_empty {n : Nat} {sl : Nat × Nat} {kd : Nat → Nat × Nat} {I : Nat → Nat → Int32} {L : Nat → Nat → Int64} {Rf : Nat → Nat → Option Nat} (d : Nat) {i : Nat} (h : eb_txt n kd Rf i) (hr : i = 1)  : zq mX9_empty d [.ref i] (n, sl, kd, I, L, Rf) (eb_v (n, sl, kd, z_set I i 1 0, L, Rf)) := by
  intro f B
  refine ez_meth pn_X.2.2.2.2.2.2.2.2.2.1 (Nat.le_of_ble_eq_true rfl) ?_
  show ez_P _ _ _ _ mX9_empty (d) 0 [(0, .ref i)] [] (n, sl, kd, I, L, Rf) _
  refine ez_aload_n (i := 0) dX9_empty_0 rfl rfl ?_
  refine ez_iconst (v := 0) dX9_empty_1 (by decide) ?_
  refine ez_pI dX9_empty_2 plX9_15 (by have := h.2.2.2.1; omega) (by have := h.2.2.2; omega) h.1 rfl rfl ?_
  refine ez_nmI (fun I1 hI1 => ?_)
  refine ez_vret dX9_empty_5 rfl ?_
  exact ⟨by simp_all, rfl⟩
theorem y_X9_cut_ok {n : Nat} {sl : Nat × Nat} {kd : Nat → Nat × Nat} {I : Nat → Nat → Int32} {L : Nat → Nat → Int64} {Rf : Nat → Nat → Option Nat} (d : Nat) {i : Nat} (h : eb_txt n kd Rf i) (hr : i = 1) {x : Int32} (hx : 0 ≤ x ∧ x ≤ I i 1) : zq mX9_cut d [.ref i, .int x] (n, sl, kd, I, L, Rf) (eb_r 1 (n, sl, kd, z_set I i 1 x, L, Rf)) := by
  intro f B
  refine ez_meth pn_X.2.2.2.2.2.2.2.2.2.1 (Nat.le_of_ble_eq_true rfl) ?_
  show ez_P _ _ _ _ mX9_cut (d) 0 [(0, .ref i), (1, .int x)] [] (n, sl, kd, I, L, Rf) _
  refine ez_iload_n (i := 1) dX9_cut_0 rfl rfl ?_
  refine ez_if_lt (tgt := 12) dX9_cut_1 (by decide) (fun c1 => absurd c1 (by simp only [Int32.lt_iff_toInt_lt, Int32.le_iff_toInt_le] at *; omega)) (fun c1 => ?_)
  refine ez_iload_n (i := 1) dX9_cut_4 rfl rfl ?_
  refine ez_aload_n (i := 0) dX9_cut_5 rfl rfl ?_
  refine ez_getI dX9_cut_6 flX9_15 (by have := h.2.2.2.1; omega) h.1 ?_
  refine ez_icmp_le (tgt := 14) dX9_cut_9 (by decide) (fun c2 => ?_) (fun c2 => absurd hx.2 c2)
  refine ez_aload_n (i := 0) dX9_cut_14 rfl rfl ?_
  refine ez_iload_n (i := 1) dX9_cut_15 rfl rfl ?_
  refine ez_pI dX9_cut_16 plX9_15 (by have := h.2.2.2.1; omega) (by have := h.2.2.2; omega) h.1 rfl rfl ?_
  refine ez_nmI (fun I3 hI3 => ?_)
  refine ez_iconst (v := 1) dX9_cut_19 (by decide) ?_
  refine ez_iret dX9_cut_20 rfl rfl ?_
  exact ⟨by simp_all, rfl⟩
theorem y_X9_cut_no {n : Nat} {sl : Nat × Nat} {kd : Nat → Nat × Nat} {I : Nat → Nat → Int32} {L : Nat → Nat → Int64} {Rf : Nat → Nat → Option Nat} (d : Nat) {i : Nat} (h : eb_txt n kd Rf i) (hr : i = 1) {x : Int32} (hx : ¬ (0 ≤ x ∧ x ≤ I i 1)) : zq mX9_cut d [.ref i, .int x] (n, sl, kd, I, L, Rf) (eb_r 0 (n, sl, kd, I, L, Rf)) := by
  intro f B
  refine ez_meth pn_X.2.2.2.2.2.2.2.2.2.1 (Nat.le_of_ble_eq_true rfl) ?_
  show ez_P _ _ _ _ mX9_cut (d) 0 [(0, .ref i), (1, .int x)] [] (n, sl, kd, I, L, Rf) _
  refine ez_iload_n (i := 1) dX9_cut_0 rfl rfl ?_
  refine ez_if_lt (tgt := 12) dX9_cut_1 (by decide) (fun c1 => ?_) (fun c1 => ?_)
  · skip
    refine ez_iconst (v := 0) dX9_cut_12 (by decide) ?_
    refine ez_iret dX9_cut_13 rfl rfl ?_
    exact ⟨rfl, rfl⟩
  · skip
    refine ez_iload_n (i := 1) dX9_cut_4 rfl rfl ?_
    refine ez_aload_n (i := 0) dX9_cut_5 rfl rfl ?_
    refine ez_getI dX9_cut_6 flX9_15 (by have := h.2.2.2.1; omega) h.1 ?_
    refine ez_icmp_le (tgt := 14) dX9_cut_9 (by decide) (fun c2 => ?_) (fun c2 => ?_)
    · skip
      refine ez_aload_n (i := 0) dX9_cut_14 rfl rfl ?_
      refine ez_iload_n (i := 1) dX9_cut_15 rfl rfl ?_
      refine ez_pI dX9_cut_16 plX9_15 (by have := h.2.2.2.1; omega) (by have := h.2.2.2; omega) h.1 rfl rfl ?_
      refine ez_nmI (fun I3 hI3 => ?_)
      refine ez_iconst (v := 1) dX9_cut_19 (by decide) ?_
      refine ez_iret dX9_cut_20 rfl rfl ?_
      exact absurd (by simp only [Int32.lt_iff_toInt_lt, Int32.le_iff_toInt_le] at *; omega) hx
    · skip
      refine ez_iconst (v := 0) dX9_cut_12 (by decide) ?_
      refine ez_iret dX9_cut_13 rfl rfl ?_
      exact ⟨rfl, rfl⟩
theorem y_X9_at_in {n : Nat} {sl : Nat × Nat} {kd : Nat → Nat × Nat} {I : Nat → Nat → Int32} {L : Nat → Nat → Int64} {Rf : Nat → Nat → Option Nat} (d : Nat) {i : Nat} (h : eb_txt n kd Rf i) (hr : i = 1) {m : Nat} (hm : I i 1 = nI m) (hm8 : m ≤ 80) {k : Nat} (hk : k < m) : zq mX9_at d [.ref i, .int (nI k)] (n, sl, kd, I, L, Rf) (eb_r (I (i + 1) k) (n, sl, kd, I, L, Rf)) := by
  intro f B
  refine ez_meth pn_X.2.2.2.2.2.2.2.2.2.1 (Nat.le_of_ble_eq_true rfl) ?_
  show ez_P _ _ _ _ mX9_at (d) 0 [(0, .ref i), (1, .int (nI k))] [] (n, sl, kd, I, L, Rf) _
  refine ez_iload_n (i := 1) dX9_at_0 rfl rfl ?_
  refine ez_if_lt (tgt := 21) dX9_at_1 (by decide) (fun c1 => absurd c1 (nI_pos (by omega))) (fun c1 => ?_)
  refine ez_iload_n (i := 1) dX9_at_4 rfl rfl ?_
  refine ez_aload_n (i := 0) dX9_at_5 rfl rfl ?_
  refine ez_getI dX9_at_6 flX9_15 (by have := h.2.2.2.1; omega) h.1 ?_
  refine ez_icmp_ge (tgt := 21) dX9_at_9 (by decide) (fun c2 => absurd c2 (by rw [hm]; exact nI_ge hk (by omega))) (fun c2 => ?_)
  refine ez_aload_n (i := 0) dX9_at_12 rfl rfl ?_
  refine ez_getR dX9_at_13 flX9_9 (by have := h.2.2.2.1; omega) h.1 h.2.2.1 ?_
  refine ez_iload_n (i := 1) dX9_at_16 rfl rfl ?_
  refine ez_iaN dX9_at_17 h.2.2.2.1 h.2.1 (by omega) (by decide) ?_
  refine ez_goto (tgt := 22) dX9_at_18 (by decide) ?_
  refine ez_iret dX9_at_22 rfl rfl ?_
  exact ⟨rfl, rfl⟩
theorem y_X9_at_out {n : Nat} {sl : Nat × Nat} {kd : Nat → Nat × Nat} {I : Nat → Nat → Int32} {L : Nat → Nat → Int64} {Rf : Nat → Nat → Option Nat} (d : Nat) {i : Nat} (h : eb_txt n kd Rf i) (hr : i = 1) {m : Nat} (hm : I i 1 = nI m) (hm8 : m ≤ 80) {k : Nat} (hk : m ≤ k) (hk2 : k < 2147483648) : zq mX9_at d [.ref i, .int (nI k)] (n, sl, kd, I, L, Rf) (eb_r (-1) (n, sl, kd, I, L, Rf)) := by
  intro f B
  refine ez_meth pn_X.2.2.2.2.2.2.2.2.2.1 (Nat.le_of_ble_eq_true rfl) ?_
  show ez_P _ _ _ _ mX9_at (d) 0 [(0, .ref i), (1, .int (nI k))] [] (n, sl, kd, I, L, Rf) _
  refine ez_iload_n (i := 1) dX9_at_0 rfl rfl ?_
  refine ez_if_lt (tgt := 21) dX9_at_1 (by decide) (fun c1 => absurd c1 (nI_pos (by omega))) (fun c1 => ?_)
  refine ez_iload_n (i := 1) dX9_at_4 rfl rfl ?_
  refine ez_aload_n (i := 0) dX9_at_5 rfl rfl ?_
  refine ez_getI dX9_at_6 flX9_15 (by have := h.2.2.2.1; omega) h.1 ?_
  refine ez_icmp_ge (tgt := 21) dX9_at_9 (by decide) (fun c2 => ?_) (fun c2 => absurd (by rw [hm]; exact nI_le hk (by omega)) c2)
  refine ez_iconst (v := (-1)) dX9_at_21 (by decide) ?_
  refine ez_iret dX9_at_22 rfl rfl ?_
  exact ⟨rfl, rfl⟩
theorem y_X9_digit {n : Nat} {sl : Nat × Nat} {kd : Nat → Nat × Nat} {I : Nat → Nat → Int32} {L : Nat → Nat → Int64} {Rf : Nat → Nat → Option Nat} (d : Nat) {i : Nat} (h : eb_txt n kd Rf i) (hr : i = 1) {m : Nat} (hm : I i 1 = nI m) (hm8 : m ≤ 80) {k : Nat} (hk : k < m) : zq mX9_digit (d + 1) [.ref i, .int (nI k)] (n, sl, kd, I, L, Rf) (eb_r (I (i + 1) k - 48) (n, sl, kd, I, L, Rf)) := by
  intro f B
  refine ez_meth pn_X.2.2.2.2.2.2.2.2.2.1 (Nat.le_of_ble_eq_true rfl) ?_
  show ez_P _ _ _ _ mX9_digit (d + 1) 0 [(0, .ref i), (1, .int (nI k))] [] (n, sl, kd, I, L, Rf) _
  refine ez_aload_n (i := 0) dX9_digit_0 rfl rfl ?_
  refine ez_iload_n (i := 1) dX9_digit_1 rfl rfl ?_
  refine ez_callV (M1 := mX9_at) (rest := []) dX9_digit_2 mlX9_19 mvX9_at rfl (by have := h.2.2.2.1; omega) h.1 (Nat.le_of_ble_eq_true rfl) rfl (y_X9_at_in d h hr hm hm8 hk) eb_rok ?_
  rintro _ _ ⟨rfl, rfl⟩
  show ez_P _ _ _ _ _ _ 5 [(0, .ref i), (1, .int (nI k))] (.int (I (i + 1) k) :: []) _ _
  refine ez_bipush (v := 48) dX9_digit_5 (by decide) ?_
  refine ez_isub dX9_digit_7 ?_
  refine ez_iret dX9_digit_8 rfl rfl ?_
  exact ⟨rfl, rfl⟩
theorem y_X9_signed {n : Nat} {sl : Nat × Nat} {kd : Nat → Nat × Nat} {I : Nat → Nat → Int32} {L : Nat → Nat → Int64} {Rf : Nat → Nat → Option Nat} (d : Nat) {i : Nat} (h : eb_txt n kd Rf i) (hr : i = 1) {m : Nat} (hm : I i 1 = nI m) (hm8 : m ≤ 80) {k : Nat} (hk : k + 1 < m) : zq mX9_signed (d + 2) [.ref i, .int (nI k)] (n, sl, kd, I, L, Rf) (eb_r (z_sg (I (i + 1)) k) (n, sl, kd, I, L, Rf)) := by
  intro f B
  refine ez_meth pn_X.2.2.2.2.2.2.2.2.2.1 (Nat.le_of_ble_eq_true rfl) ?_
  show ez_P _ _ _ _ mX9_signed (d + 2) 0 [(0, .ref i), (1, .int (nI k))] [] (n, sl, kd, I, L, Rf) _
  refine ez_aload_n (i := 0) dX9_signed_0 rfl rfl ?_
  refine ez_iload_n (i := 1) dX9_signed_1 rfl rfl ?_
  refine ez_callV (M1 := mX9_at) (rest := []) dX9_signed_2 mlX9_19 mvX9_at rfl (by have := h.2.2.2.1; omega) h.1 (Nat.le_of_ble_eq_true rfl) rfl (y_X9_at_in (d + 1) h hr hm hm8 (by omega)) eb_rok ?_
  rintro _ _ ⟨rfl, rfl⟩
  show ez_P _ _ _ _ _ _ 5 [(0, .ref i), (1, .int (nI k))] (.int (I (i + 1) k) :: []) _ _
  refine ez_bipush (v := 45) dX9_signed_5 (by decide) ?_
  refine ez_icmp_ne (tgt := 21) dX9_signed_7 (by decide) (fun c1 => ?_) (fun c1 => ?_)
  · skip
    refine ez_aload_n (i := 0) dX9_signed_21 rfl rfl ?_
    refine ez_iload_n (i := 1) dX9_signed_22 rfl rfl ?_
    refine ez_iconst (v := 1) dX9_signed_23 (by decide) ?_
    refine ez_iadd dX9_signed_24 ?_
    refine ez_topE (y := nI (k + 1)) (nI_1 _) ?_
    refine ez_callV (M1 := mX9_digit) (rest := []) dX9_signed_25 mlX9_23 mvX9_digit rfl (by have := h.2.2.2.1; omega) h.1 (Nat.le_of_ble_eq_true rfl) rfl (y_X9_digit d h hr hm hm8 hk) eb_rok ?_
    rintro _ _ ⟨rfl, rfl⟩
    show ez_P _ _ _ _ _ _ 28 [(0, .ref i), (1, .int (nI k))] (.int (I (i + 1) (k + 1) - 48) :: []) _ _
    refine ez_iret dX9_signed_28 rfl rfl ?_
    exact ⟨rfl, by simp_all [z_sg]⟩
  · skip
    refine ez_aload_n (i := 0) dX9_signed_10 rfl rfl ?_
    refine ez_iload_n (i := 1) dX9_signed_11 rfl rfl ?_
    refine ez_iconst (v := 1) dX9_signed_12 (by decide) ?_
    refine ez_iadd dX9_signed_13 ?_
    refine ez_topE (y := nI (k + 1)) (nI_1 _) ?_
    refine ez_callV (M1 := mX9_digit) (rest := []) dX9_signed_14 mlX9_23 mvX9_digit rfl (by have := h.2.2.2.1; omega) h.1 (Nat.le_of_ble_eq_true rfl) rfl (y_X9_digit d h hr hm hm8 hk) eb_rok ?_
    rintro _ _ ⟨rfl, rfl⟩
    show ez_P _ _ _ _ _ _ 17 [(0, .ref i), (1, .int (nI k))] (.int (I (i + 1) (k + 1) - 48) :: []) _ _
    refine ez_ineg dX9_signed_17 ?_
    refine ez_goto (tgt := 28) dX9_signed_18 (by decide) ?_
    refine ez_iret dX9_signed_28 rfl rfl ?_
    exact ⟨rfl, by simp_all [z_sg]⟩
theorem y_X2_empty {n : Nat} {sl : Nat × Nat} {kd : Nat → Nat × Nat} {I : Nat → Nat → Int32} {L : Nat → Nat → Int64} {Rf : Nat → Nat → Option Nat} (d : Nat) {i : Nat} (h : eb_pst n kd Rf i) (hr : i = 33)  : zq mX2_empty d [.ref i] (n, sl, kd, I, L, Rf) (eb_v (n, sl, kd, z_set I i 2 0, L, Rf)) := by
  intro f B
  refine ez_meth pn_X.2.2.1 (Nat.le_of_ble_eq_true rfl) ?_
  show ez_P _ _ _ _ mX2_empty (d) 0 [(0, .ref i)] [] (n, sl, kd, I, L, Rf) _
  refine ez_aload_n (i := 0) dX2_empty_0 rfl rfl ?_
  refine ez_iconst (v := 0) dX2_empty_1 (by decide) ?_
  refine ez_pI dX2_empty_2 plX2_16 (by have := h.2.2.2.2.1; omega) (by have := h.2.2.2.2; omega) h.1 rfl rfl ?_
  refine ez_nmI (fun I1 hI1 => ?_)
  refine ez_vret dX2_empty_5 rfl ?_
  exact ⟨by simp_all, rfl⟩
theorem y_X2_add_few {n : Nat} {sl : Nat × Nat} {kd : Nat → Nat × Nat} {I : Nat → Nat → Int32} {L : Nat → Nat → Int64} {Rf : Nat → Nat → Option Nat} (d : Nat) {i : Nat} (h : eb_pst n kd Rf i) (hr : i = 33) {o s j c : Nat} (ho : I i 1 = nI o) (ho2 : o < 12) (hsz : I i 2 = nI s) (g : eb_shp n kd Rf j) (hr2 : 21 ≤ j ∧ j ≤ 88) (hc : I j 3 = nI c) (hc7 : c ≤ 7) (hij : j + 4 ≤ i ∨ i + 50 ≤ j) (hs2 : s < 12) : zq mX2_add (d + 1) [.ref i, .ref j] (n, sl, kd, I, L, Rf) (eb_v (n, sl, kd, z_set (z_cp I (i + 2 + 4 * ((o + s) % 12)) j c) i 2 (nI (s + 1)), L, Rf)) := by
  intro f B
  refine ez_meth pn_X.2.2.1 (Nat.le_of_ble_eq_true rfl) ?_
  show ez_P _ _ _ _ mX2_add (d + 1) 0 [(0, .ref i), (1, .ref j)] [] (n, sl, kd, I, L, Rf) _
  obtain ⟨hr, hs⟩ := h.2.2.2.1 ((o + s) % 12) (Nat.mod_lt _ (by decide))
  have hm := Nat.mod_lt (o + s) (show 0 < 12 by decide)
  refine ez_aload_n (i := 0) dX2_add_0 rfl rfl ?_
  refine ez_getR dX2_add_1 flX2_11 (by have := h.2.2.2.2.1; omega) h.1 h.2.2.1 ?_
  refine ez_aload_n (i := 0) dX2_add_4 rfl rfl ?_
  refine ez_getI dX2_add_5 flX2_20 (by have := h.2.2.2.2.1; omega) h.1 ?_
  refine ez_topE (y := nI o) ho ?_
  refine ez_aload_n (i := 0) dX2_add_8 rfl rfl ?_
  refine ez_getI dX2_add_9 flX2_16 (by have := h.2.2.2.2.1; omega) h.1 ?_
  refine ez_topE (y := nI s) hsz ?_
  refine ez_iadd dX2_add_12 ?_
  refine ez_topE (y := nI (o + s)) (nI_add o s) ?_
  refine ez_bipush (v := 12) dX2_add_13 (by decide) ?_
  refine ez_irem dX2_add_15 (by decide) ?_
  refine ez_topE (y := nI ((o + s) % 12)) (pk_rem (a := o + s) (d := 12) (by omega) (by decide) (by decide)) ?_
  refine ez_aaN dX2_add_16 (by have := h.2.2.2.2.1; omega) h.2.1 hm (by decide) hr ?_
  refine ez_aload_n (i := 1) dX2_add_17 rfl rfl ?_
  refine ez_callV (M1 := mX7_copy) (rest := []) dX2_add_18 mlX2_23 mvX7_copy rfl (hs).i0 (hs).1 (Nat.le_of_ble_eq_true rfl) rfl (y_X7_copy d hs (by omega) g hr2 (by omega) hc hc7) (eb_vok rfl) ?_
  rintro _ _ ⟨rfl, rfl⟩
  show ez_P _ _ _ _ _ _ 21 [(0, .ref i), (1, .ref j)] [] (n, sl, kd, z_cp I (i + 2 + 4 * ((o + s) % 12)) j c, L, Rf) _
  refine ez_aload_n (i := 0) dX2_add_21 rfl rfl ?_
  refine ez_getI dX2_add_22 flX2_16 (by have := h.2.2.2.2.1; omega) h.1 ?_
  refine ez_topE (y := nI s) (by rw [z_cpo (by omega)]; exact hsz) ?_
  refine ez_bipush (v := 12) dX2_add_25 (by decide) ?_
  refine ez_icmp_ge (tgt := 43) dX2_add_27 (by decide) (fun c1 => absurd c1 (nI_ge (a := s) (b := 12) hs2 (by decide))) (fun c1 => ?_)
  refine ez_aload_n (i := 0) dX2_add_30 rfl rfl ?_
  refine ez_dup dX2_add_31 rfl ?_
  refine ez_getI dX2_add_32 flX2_16 (by have := h.2.2.2.2.1; omega) h.1 ?_
  refine ez_topE (y := nI s) (by rw [z_cpo (by omega)]; exact hsz) ?_
  refine ez_iconst (v := 1) dX2_add_35 (by decide) ?_
  refine ez_iadd dX2_add_36 ?_
  refine ez_topE (y := nI (s + 1)) (nI_1 _) ?_
  refine ez_pI dX2_add_37 plX2_16 (by have := h.2.2.2.2.1; omega) (by have := h.2.2.2.2; omega) h.1 rfl rfl ?_
  refine ez_nmI (fun I2 hI2 => ?_)
  refine ez_goto (tgt := 56) dX2_add_40 (by decide) ?_
  refine ez_vret dX2_add_56 rfl ?_
  exact ⟨by simp_all, rfl⟩
theorem y_X2_add_full {n : Nat} {sl : Nat × Nat} {kd : Nat → Nat × Nat} {I : Nat → Nat → Int32} {L : Nat → Nat → Int64} {Rf : Nat → Nat → Option Nat} (d : Nat) {i : Nat} (h : eb_pst n kd Rf i) (hr : i = 33) {o s j c : Nat} (ho : I i 1 = nI o) (ho2 : o < 12) (hsz : I i 2 = nI s) (g : eb_shp n kd Rf j) (hr2 : 21 ≤ j ∧ j ≤ 88) (hc : I j 3 = nI c) (hc7 : c ≤ 7) (hij : j + 4 ≤ i ∨ i + 50 ≤ j) (hs2 : s = 12) : zq mX2_add (d + 1) [.ref i, .ref j] (n, sl, kd, I, L, Rf) (eb_v (n, sl, kd, z_set (z_cp I (i + 2 + 4 * ((o + s) % 12)) j c) i 1 (nI ((o + 1) % 12)), L, Rf)) := by
  intro f B
  refine ez_meth pn_X.2.2.1 (Nat.le_of_ble_eq_true rfl) ?_
  show ez_P _ _ _ _ mX2_add (d + 1) 0 [(0, .ref i), (1, .ref j)] [] (n, sl, kd, I, L, Rf) _
  obtain ⟨hr, hs⟩ := h.2.2.2.1 ((o + s) % 12) (Nat.mod_lt _ (by decide))
  have hm := Nat.mod_lt (o + s) (show 0 < 12 by decide)
  refine ez_aload_n (i := 0) dX2_add_0 rfl rfl ?_
  refine ez_getR dX2_add_1 flX2_11 (by have := h.2.2.2.2.1; omega) h.1 h.2.2.1 ?_
  refine ez_aload_n (i := 0) dX2_add_4 rfl rfl ?_
  refine ez_getI dX2_add_5 flX2_20 (by have := h.2.2.2.2.1; omega) h.1 ?_
  refine ez_topE (y := nI o) ho ?_
  refine ez_aload_n (i := 0) dX2_add_8 rfl rfl ?_
  refine ez_getI dX2_add_9 flX2_16 (by have := h.2.2.2.2.1; omega) h.1 ?_
  refine ez_topE (y := nI s) hsz ?_
  refine ez_iadd dX2_add_12 ?_
  refine ez_topE (y := nI (o + s)) (nI_add o s) ?_
  refine ez_bipush (v := 12) dX2_add_13 (by decide) ?_
  refine ez_irem dX2_add_15 (by decide) ?_
  refine ez_topE (y := nI ((o + s) % 12)) (pk_rem (a := o + s) (d := 12) (by omega) (by decide) (by decide)) ?_
  refine ez_aaN dX2_add_16 (by have := h.2.2.2.2.1; omega) h.2.1 hm (by decide) hr ?_
  refine ez_aload_n (i := 1) dX2_add_17 rfl rfl ?_
  refine ez_callV (M1 := mX7_copy) (rest := []) dX2_add_18 mlX2_23 mvX7_copy rfl (hs).i0 (hs).1 (Nat.le_of_ble_eq_true rfl) rfl (y_X7_copy d hs (by omega) g hr2 (by omega) hc hc7) (eb_vok rfl) ?_
  rintro _ _ ⟨rfl, rfl⟩
  show ez_P _ _ _ _ _ _ 21 [(0, .ref i), (1, .ref j)] [] (n, sl, kd, z_cp I (i + 2 + 4 * ((o + s) % 12)) j c, L, Rf) _
  refine ez_aload_n (i := 0) dX2_add_21 rfl rfl ?_
  refine ez_getI dX2_add_22 flX2_16 (by have := h.2.2.2.2.1; omega) h.1 ?_
  refine ez_topE (y := nI s) (by rw [z_cpo (by omega)]; exact hsz) ?_
  refine ez_bipush (v := 12) dX2_add_25 (by decide) ?_
  refine ez_icmp_ge (tgt := 43) dX2_add_27 (by decide) (fun c1 => ?_) (fun c1 => absurd (by rw [hs2]; decide) c1)
  refine ez_aload_n (i := 0) dX2_add_43 rfl rfl ?_
  refine ez_aload_n (i := 0) dX2_add_44 rfl rfl ?_
  refine ez_getI dX2_add_45 flX2_20 (by have := h.2.2.2.2.1; omega) h.1 ?_
  refine ez_topE (y := nI o) (by rw [z_cpo (by omega)]; exact ho) ?_
  refine ez_iconst (v := 1) dX2_add_48 (by decide) ?_
  refine ez_iadd dX2_add_49 ?_
  refine ez_topE (y := nI (o + 1)) (nI_1 _) ?_
  refine ez_bipush (v := 12) dX2_add_50 (by decide) ?_
  refine ez_irem dX2_add_52 (by decide) ?_
  refine ez_topE (y := nI ((o + 1) % 12)) (pk_rem (a := o + 1) (d := 12) (by omega) (by decide) (by decide)) ?_
  refine ez_pI dX2_add_53 plX2_20 (by have := h.2.2.2.2.1; omega) (by have := h.2.2.2.2; omega) h.1 rfl rfl ?_
  refine ez_nmI (fun I2 hI2 => ?_)
  refine ez_vret dX2_add_56 rfl ?_
  exact ⟨by simp_all, rfl⟩
theorem y_X2_takeLatest_ok {n : Nat} {sl : Nat × Nat} {kd : Nat → Nat × Nat} {I : Nat → Nat → Int32} {L : Nat → Nat → Int64} {Rf : Nat → Nat → Option Nat} (d : Nat) {i : Nat} (h : eb_pst n kd Rf i) (hr : i = 33) {o s j c : Nat} (ho : I i 1 = nI o) (ho2 : o < 12) (hsz : I i 2 = nI (s + 1)) (hs12 : s < 12) (g : eb_shp n kd Rf j) (hr2 : 21 ≤ j ∧ j ≤ 88) (hc : I (i + 2 + 4 * ((o + s) % 12)) 3 = nI c) (hc7 : c ≤ 7) (hij : j + 4 ≤ i ∨ i + 50 ≤ j)  : zq mX2_takeLatest (d + 1) [.ref i, .ref j] (n, sl, kd, I, L, Rf) (eb_r 1 (n, sl, kd, z_cp (z_set I i 2 (nI s)) j (i + 2 + 4 * ((o + s) % 12)) c, L, Rf)) := by
  intro f B
  refine ez_meth pn_X.2.2.1 (Nat.le_of_ble_eq_true rfl) ?_
  show ez_P _ _ _ _ mX2_takeLatest (d + 1) 0 [(0, .ref i), (1, .ref j)] [] (n, sl, kd, I, L, Rf) _
  obtain ⟨hr, hs⟩ := h.2.2.2.1 ((o + s) % 12) (Nat.mod_lt _ (by decide))
  have hm := Nat.mod_lt (o + s) (show 0 < 12 by decide)
  refine ez_aload_n (i := 0) dX2_takeLatest_0 rfl rfl ?_
  refine ez_getI dX2_takeLatest_1 flX2_16 (by have := h.2.2.2.2.1; omega) h.1 ?_
  refine ez_topE (y := nI (s + 1)) hsz ?_
  refine ez_if_ne (tgt := 9) dX2_takeLatest_4 (by decide) (fun c1 => ?_) (fun c1 => absurd (nI_ne0 (Nat.succ_pos s) (by omega)) c1)
  refine ez_aload_n (i := 0) dX2_takeLatest_9 rfl rfl ?_
  refine ez_dup dX2_takeLatest_10 rfl ?_
  refine ez_getI dX2_takeLatest_11 flX2_16 (by have := h.2.2.2.2.1; omega) h.1 ?_
  refine ez_topE (y := nI (s + 1)) hsz ?_
  refine ez_iconst (v := 1) dX2_takeLatest_14 (by decide) ?_
  refine ez_isub dX2_takeLatest_15 ?_
  refine ez_topE (y := nI s) (by rw [show (1 : Int32) = nI 1 from by decide, pk_sub (by omega)]; rfl) ?_
  refine ez_pI dX2_takeLatest_16 plX2_16 (by have := h.2.2.2.2.1; omega) (by have := h.2.2.2.2; omega) h.1 rfl rfl ?_
  refine ez_nmI (fun I2 hI2 => ?_)
  refine ez_aload_n (i := 1) dX2_takeLatest_19 rfl rfl ?_
  refine ez_aload_n (i := 0) dX2_takeLatest_20 rfl rfl ?_
  refine ez_getR dX2_takeLatest_21 flX2_11 (by have := h.2.2.2.2.1; omega) h.1 h.2.2.1 ?_
  refine ez_aload_n (i := 0) dX2_takeLatest_24 rfl rfl ?_
  refine ez_getI dX2_takeLatest_25 flX2_20 (by have := h.2.2.2.2.1; omega) h.1 ?_
  refine ez_topE (y := nI o) (by simp_all [z_set]) ?_
  refine ez_aload_n (i := 0) dX2_takeLatest_28 rfl rfl ?_
  refine ez_getI dX2_takeLatest_29 flX2_16 (by have := h.2.2.2.2.1; omega) h.1 ?_
  refine ez_topE (y := nI s) (by simp_all [z_set]) ?_
  refine ez_iadd dX2_takeLatest_32 ?_
  refine ez_topE (y := nI (o + s)) (nI_add o s) ?_
  refine ez_bipush (v := 12) dX2_takeLatest_33 (by decide) ?_
  refine ez_irem dX2_takeLatest_35 (by decide) ?_
  refine ez_topE (y := nI ((o + s) % 12)) (pk_rem (a := o + s) (d := 12) (by omega) (by decide) (by decide)) ?_
  refine ez_aaN dX2_takeLatest_36 (by have := h.2.2.2.2.1; omega) h.2.1 hm (by decide) hr ?_
  refine ez_callV (M1 := mX7_copy) (rest := []) dX2_takeLatest_37 mlX2_23 mvX7_copy rfl g.i0 g.1 (Nat.le_of_ble_eq_true rfl) rfl (y_X7_copy (I := I2) d g hr2 hs (by omega) (by omega) (c := c) (by simp only [hI2, z_set]; rw [if_neg (by omega)]; exact hc) hc7) (eb_vok rfl) ?_
  rintro _ _ ⟨rfl, rfl⟩
  show ez_P _ _ _ _ _ _ 40 [(0, .ref i), (1, .ref j)] [] (n, sl, kd, z_cp I2 j (i + 2 + 4 * ((o + s) % 12)) c, L, Rf) _
  refine ez_iconst (v := 1) dX2_takeLatest_40 (by decide) ?_
  refine ez_iret dX2_takeLatest_41 rfl rfl ?_
  exact ⟨by simp_all, rfl⟩
theorem y_X2_takeLatest_no {n : Nat} {sl : Nat × Nat} {kd : Nat → Nat × Nat} {I : Nat → Nat → Int32} {L : Nat → Nat → Int64} {Rf : Nat → Nat → Option Nat} (d : Nat) {i : Nat} (h : eb_pst n kd Rf i) (hr : i = 33) {j : Nat} (hsz : I i 2 = 0) : zq mX2_takeLatest d [.ref i, .ref j] (n, sl, kd, I, L, Rf) (eb_r 0 (n, sl, kd, I, L, Rf)) := by
  intro f B
  refine ez_meth pn_X.2.2.1 (Nat.le_of_ble_eq_true rfl) ?_
  show ez_P _ _ _ _ mX2_takeLatest (d) 0 [(0, .ref i), (1, .ref j)] [] (n, sl, kd, I, L, Rf) _
  refine ez_aload_n (i := 0) dX2_takeLatest_0 rfl rfl ?_
  refine ez_getI dX2_takeLatest_1 flX2_16 (by have := h.2.2.2.2.1; omega) h.1 ?_
  refine ez_if_ne (tgt := 9) dX2_takeLatest_4 (by decide) (fun c1 => absurd c1 (fun z => z hsz)) (fun c1 => ?_)
  refine ez_iconst (v := 0) dX2_takeLatest_7 (by decide) ?_
  refine ez_iret dX2_takeLatest_8 rfl rfl ?_
  exact ⟨rfl, rfl⟩
theorem y_X6_priceOf {n : Nat} {sl : Nat × Nat} {kd : Nat → Nat × Nat} {I : Nat → Nat → Int32} {L : Nat → Nat → Int64} {Rf : Nat → Nat → Option Nat} (d : Nat) {i a : Nat} (h : eb_sea n kd Rf i a) (hr : i = 5) {k : Nat} (hk : k < 6) : zq mX6_priceOf d [.ref i, .int (nI k)] (n, sl, kd, I, L, Rf) (eb_r (I (i + 1) k) (n, sl, kd, I, L, Rf)) := by
  intro f B
  refine ez_meth pn_X.2.2.2.2.2.2.1 (Nat.le_of_ble_eq_true rfl) ?_
  show ez_P _ _ _ _ mX6_priceOf (d) 0 [(0, .ref i), (1, .int (nI k))] [] (n, sl, kd, I, L, Rf) _
  refine ez_iload_n (i := 1) dX6_priceOf_0 rfl rfl ?_
  refine ez_if_lt (tgt := 19) dX6_priceOf_1 (by decide) (fun c1 => absurd c1 (nI_pos (by omega))) (fun c1 => ?_)
  refine ez_iload_n (i := 1) dX6_priceOf_4 rfl rfl ?_
  refine ez_bipush (v := 6) dX6_priceOf_5 (by decide) ?_
  refine ez_icmp_ge (tgt := 19) dX6_priceOf_7 (by decide) (fun c2 => absurd c2 (nI_ge (a := k) (b := 6) hk (by decide))) (fun c2 => ?_)
  refine ez_aload_n (i := 0) dX6_priceOf_10 rfl rfl ?_
  refine ez_getR dX6_priceOf_11 flX6_9 (by have := h.x; omega) h.1 h.2.2.2.2.2.2.1 ?_
  refine ez_iload_n (i := 1) dX6_priceOf_14 rfl rfl ?_
  refine ez_iaN (k := k) dX6_priceOf_15 (by have := h.x; omega) h.2.1 (by omega) (by decide) ?_
  refine ez_goto (tgt := 20) dX6_priceOf_16 (by decide) ?_
  refine ez_iret dX6_priceOf_20 rfl rfl ?_
  exact ⟨rfl, rfl⟩
theorem y_X6_windAt {n : Nat} {sl : Nat × Nat} {kd : Nat → Nat × Nat} {I : Nat → Nat → Int32} {L : Nat → Nat → Int64} {Rf : Nat → Nat → Option Nat} (d : Nat) {i a : Nat} (h : eb_sea n kd Rf i a) (hr : i = 5) {k m : Nat} (hm : I i 2 = nI m) (hm0 : 0 < m) (hm2 : m ≤ 20) (hk : k < 2147483648) : zq mX6_windAt d [.ref i, .int (nI k)] (n, sl, kd, I, L, Rf) (eb_r (I (i + 2) (k % m)) (n, sl, kd, I, L, Rf)) := by
  intro f B
  refine ez_meth pn_X.2.2.2.2.2.2.1 (Nat.le_of_ble_eq_true rfl) ?_
  show ez_P _ _ _ _ mX6_windAt (d) 0 [(0, .ref i), (1, .int (nI k))] [] (n, sl, kd, I, L, Rf) _
  refine ez_aload_n (i := 0) dX6_windAt_0 rfl rfl ?_
  refine ez_getI dX6_windAt_1 flX6_18 (by have := h.x; omega) h.1 ?_
  refine ez_topE (y := nI m) hm ?_
  refine ez_if_le (tgt := 16) dX6_windAt_4 (by decide) (fun c1 => absurd c1 (fun g => absurd g (by have g1 := nI_lt (a := 0) (b := m) hm0 (by omega); rw [nI_0] at g1; exact Int32.not_le.mpr g1))) (fun c1 => ?_)
  refine ez_iload_n (i := 1) dX6_windAt_7 rfl rfl ?_
  refine ez_aload_n (i := 0) dX6_windAt_8 rfl rfl ?_
  refine ez_getI dX6_windAt_9 flX6_18 (by have := h.x; omega) h.1 ?_
  refine ez_topE (y := nI m) hm ?_
  refine ez_irem dX6_windAt_12 (nI_ne0 hm0 (by omega)) ?_
  refine ez_topE (y := nI (k % m)) (pk_rem (a := k) (d := m) hk hm0 (by omega)) ?_
  refine ez_goto (tgt := 17) dX6_windAt_13 (by decide) ?_
  refine ez_istore_n (l' := [(2, .int (nI (k % m))), (0, .ref i), (1, .int (nI k))]) dX6_windAt_17 rfl (by decide) rfl ?_
  refine ez_iload_n (i := 2) dX6_windAt_18 rfl rfl ?_
  refine ez_if_lt (tgt := 40) dX6_windAt_19 (by decide) (fun c2 => absurd c2 (nI_pos (by have := Nat.mod_lt k hm0; omega))) (fun c2 => ?_)
  refine ez_iload_n (i := 2) dX6_windAt_22 rfl rfl ?_
  refine ez_aload_n (i := 0) dX6_windAt_23 rfl rfl ?_
  refine ez_getR dX6_windAt_24 flX6_15 (by have := h.x; omega) h.1 h.2.2.2.2.2.2.2.1 ?_
  refine ez_alen (v := 20) dX6_windAt_27 (by have := h.x; omega) h.2.2.1 (by decide) (by decide) ?_
  refine ez_icmp_ge (tgt := 40) dX6_windAt_28 (by decide) (fun c3 => absurd c3 (nI_ge (a := k % m) (b := 20) (by have := Nat.mod_lt k hm0; omega) (by decide))) (fun c3 => ?_)
  refine ez_aload_n (i := 0) dX6_windAt_31 rfl rfl ?_
  refine ez_getR dX6_windAt_32 flX6_15 (by have := h.x; omega) h.1 h.2.2.2.2.2.2.2.1 ?_
  refine ez_iload_n (i := 2) dX6_windAt_35 rfl rfl ?_
  refine ez_iaN (k := (k % m)) dX6_windAt_36 (by have := h.x; omega) h.2.2.1 (by have := Nat.mod_lt k hm0; omega) (by decide) ?_
  refine ez_goto (tgt := 41) dX6_windAt_37 (by decide) ?_
  refine ez_iret dX6_windAt_41 rfl rfl ?_
  exact ⟨rfl, rfl⟩
