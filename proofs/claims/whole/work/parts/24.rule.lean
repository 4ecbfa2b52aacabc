/-! Rule: cells i, i + 1 program, i + 2 waiting, i + 3 stack, i + 4 compared; valueBy -/
def eb_rul (n : Nat) (kd : Nat → Nat × Nat) (Rf : Nat → Nat → Option Nat) (i : Nat) : Prop := (kd i).1 = 5 ∧ kd (i + 1) = (20, 40) ∧ kd (i + 2) = (20, 40) ∧ kd (i + 3) = (20, 40) ∧ kd (i + 4) = (22, 5) ∧ Rf i 0 = some (i + 1) ∧ Rf i 1 = some (i + 2) ∧ Rf i 2 = some (i + 3) ∧ Rf i 3 = some (i + 4) ∧ i + 4 < n ∧ n < 1000000
def z_jn (sg x y : Int32) : Int32 := if sg = 60 then (if x < y then 1 else 0) else if sg = 62 then (if y < x then 1 else 0) else if sg = 61 then (if x = y then 1 else 0) else if sg = 43 then x + y else if sg = 45 then x - y else if sg = 42 then x * y else (if y = 0 then 0 else x / y)
/-- one sign of a program, on what lies there (the latest first) -/
def z_stp (th : Nat → Int32) (cd : Int32) (st : List Int32) : List Int32 :=
  if 0 ≤ cd then cd :: st else if -1 - cd < 7 then th (-1 - cd).toNatClampNeg :: st
  else match st with
    | [] => [0]
    | [y] => if cd = -356 then [-y] else [0, y]
    | y :: x :: r => if cd = -356 then -y :: x :: r else z_jn (-100 - cd) x y :: r
theorem z_stp_n {th : Nat → Int32} {cd : Int32} {u : List Int32} (h : 0 ≤ cd) : z_stp th cd u = cd :: u := by unfold z_stp; rw [if_pos h]
theorem z_stp_l {th : Nat → Int32} {cd lt : Int32} {u : List Int32} (h : cd < 0) (e : lt = -1 - cd) (h2 : ¬ 7 ≤ lt) : z_stp th cd u = th lt.toNatClampNeg :: u := by
  unfold z_stp; rw [if_neg (Int32.not_le.mpr h), if_pos (by rw [← e]; exact Int32.not_le.mp h2), e]
theorem z_stp_m {th : Nat → Int32} {cd lt y : Int32} {u : List Int32} (h : cd < 0) (e : lt = -1 - cd) (h2 : 7 ≤ lt) (h3 : cd = -356) : z_stp th cd (y :: u) = -y :: u := by
  unfold z_stp; rw [if_neg (Int32.not_le.mpr h), if_neg (by rw [← e]; exact Int32.not_lt.mpr h2)]
  cases u <;> simp [h3]
theorem z_stp_0 {th : Nat → Int32} {cd lt : Int32} (h : cd < 0) (e : lt = -1 - cd) (h2 : 7 ≤ lt) : z_stp th cd [] = [0] := by
  unfold z_stp; rw [if_neg (Int32.not_le.mpr h), if_neg (by rw [← e]; exact Int32.not_lt.mpr h2)]
theorem z_stp_1 {th : Nat → Int32} {cd lt y : Int32} (h : cd < 0) (e : lt = -1 - cd) (h2 : 7 ≤ lt) (h3 : cd ≠ -356) : z_stp th cd [y] = [0, y] := by
  unfold z_stp; rw [if_neg (Int32.not_le.mpr h), if_neg (by rw [← e]; exact Int32.not_lt.mpr h2)]
  simp [h3]
theorem z_stp_2 {th : Nat → Int32} {cd lt y x : Int32} {r : List Int32} (h : cd < 0) (e : lt = -1 - cd) (h2 : 7 ≤ lt) (h3 : cd ≠ -356) : z_stp th cd (y :: x :: r) = z_jn (-100 - cd) x y :: r := by
  unfold z_stp; rw [if_neg (Int32.not_le.mpr h), if_neg (by rw [← e]; exact Int32.not_lt.mpr h2)]
  simp [h3]
theorem z_ltp {cd lt : Int32} (h : cd < 0) (e : lt = -1 - cd) : 0 ≤ lt := by
  have h1 : cd.toInt < 0 := Int32.lt_iff_toInt_lt.mp h
  have h2 := Int32.le_toInt cd
  rw [Int32.le_iff_toInt_le, e, Int32.toInt_sub]
  show (0 : Int) ≤ ((-1 : Int32).toInt - cd.toInt).bmod _
  rw [show (-1 : Int32).toInt = -1 from rfl, Int.bmod_eq_of_le (by omega) (by omega)]
  omega
def z_rs (pg th : Nat → Int32) : Nat → List Int32
  | 0 => []
  | k + 1 => z_stp th (pg k) (z_rs pg th k)
def z_val (pg th : Nat → Int32) (s : Nat) : Int32 := (z_rs pg th s).headD 0
def eb_ri (n : Nat) (sl : Nat × Nat) (kd : Nat → Nat × Nat) (L : Nat → Nat → Int64) (Rf : Nat → Nat → Option Nat) (x : Int32) (P : (Nat → Nat → Int32) → Prop) : Option Value → eb_S → Prop := fun r τ => r = some (.int x) ∧ ∃ I1, τ = (n, sl, kd, I1, L, Rf) ∧ P I1
theorem eb_riok {n : Nat} {sl : Nat × Nat} {kd : Nat → Nat × Nat} {L : Nat → Nat → Int64} {Rf : Nat → Nat → Option Nat} {x : Int32} {P : (Nat → Nat → Int32) → Prop} {l : List (Nat × Value)} {rest : List Value} : ∀ r1 σ1, eb_ri n sl kd L Rf x P r1 σ1 → σ1.1 = n ∨ ((∀ q ∈ l, eb_okv n q.2) ∧ ∀ v ∈ rest, eb_okv n v) := fun _ _ ⟨_, _, h, _⟩ => Or.inl (by rw [h])
theorem q_X5_joined_60 {σ : eb_S} (d : Nat) (x y : Int32) : eb_Q mX5_joined d [.int 60, .int x, .int y] σ (eb_r (z_jn 60 x y) σ) := by
  refine ep_meth pn_X.2.2.2.2.2.1 (Nat.le_of_ble_eq_true rfl) ?_
  show eb_P mX5_joined (d) 0 [(0, .int 60), (1, .int x), (2, .int y)] [] σ _
  refine ep_iload_n (i := 0) dX5_joined_0 rfl rfl ?_
  refine ep_lookup (off := 59) (tgt := 60) dX5_joined_1 (by decide) (by decide) (by decide) ?_
  refine ep_iload_n (i := 1) dX5_joined_60 rfl rfl ?_
  refine ep_iload_n (i := 2) dX5_joined_61 rfl rfl ?_
  refine ep_icmp_ge (tgt := 69) dX5_joined_62 (by decide) (fun c1 => ?_) (fun c1 => ?_)
  · skip
    refine ep_iconst (v := 0) dX5_joined_69 (by decide) ?_
    refine ep_iret dX5_joined_70 rfl rfl ?_
    exact ⟨rfl, by simp only [z_jn]; first | rfl | (simp_all) | (simp only [Int32.lt_iff_toInt_lt, Int32.le_iff_toInt_le] at *; simp_all; try omega)⟩
  · skip
    refine ep_iconst (v := 1) dX5_joined_65 (by decide) ?_
    refine ep_goto (tgt := 70) dX5_joined_66 (by decide) ?_
    refine ep_iret dX5_joined_70 rfl rfl ?_
    exact ⟨rfl, by simp only [z_jn]; first | rfl | (simp_all) | (simp only [Int32.lt_iff_toInt_lt, Int32.le_iff_toInt_le] at *; simp_all; try omega)⟩
theorem q_X5_joined_62 {σ : eb_S} (d : Nat) (x y : Int32) : eb_Q mX5_joined d [.int 62, .int x, .int y] σ (eb_r (z_jn 62 x y) σ) := by
  refine ep_meth pn_X.2.2.2.2.2.1 (Nat.le_of_ble_eq_true rfl) ?_
  show eb_P mX5_joined (d) 0 [(0, .int 62), (1, .int x), (2, .int y)] [] σ _
  refine ep_iload_n (i := 0) dX5_joined_0 rfl rfl ?_
  refine ep_lookup (off := 70) (tgt := 71) dX5_joined_1 (by decide) (by decide) (by decide) ?_
  refine ep_iload_n (i := 1) dX5_joined_71 rfl rfl ?_
  refine ep_iload_n (i := 2) dX5_joined_72 rfl rfl ?_
  refine ep_icmp_le (tgt := 80) dX5_joined_73 (by decide) (fun c1 => ?_) (fun c1 => ?_)
  · skip
    refine ep_iconst (v := 0) dX5_joined_80 (by decide) ?_
    refine ep_iret dX5_joined_81 rfl rfl ?_
    exact ⟨rfl, by simp only [z_jn]; first | rfl | (simp_all) | (simp only [Int32.lt_iff_toInt_lt, Int32.le_iff_toInt_le] at *; simp_all; try omega)⟩
  · skip
    refine ep_iconst (v := 1) dX5_joined_76 (by decide) ?_
    refine ep_goto (tgt := 81) dX5_joined_77 (by decide) ?_
    refine ep_iret dX5_joined_81 rfl rfl ?_
    exact ⟨rfl, by simp only [z_jn]; first | rfl | (simp_all) | (simp only [Int32.lt_iff_toInt_lt, Int32.le_iff_toInt_le] at *; simp_all; try omega)⟩
theorem q_X5_joined_61 {σ : eb_S} (d : Nat) (x y : Int32) : eb_Q mX5_joined d [.int 61, .int x, .int y] σ (eb_r (z_jn 61 x y) σ) := by
  refine ep_meth pn_X.2.2.2.2.2.1 (Nat.le_of_ble_eq_true rfl) ?_
  show eb_P mX5_joined (d) 0 [(0, .int 61), (1, .int x), (2, .int y)] [] σ _
  refine ep_iload_n (i := 0) dX5_joined_0 rfl rfl ?_
  refine ep_lookup (off := 81) (tgt := 82) dX5_joined_1 (by decide) (by decide) (by decide) ?_
  refine ep_iload_n (i := 1) dX5_joined_82 rfl rfl ?_
  refine ep_iload_n (i := 2) dX5_joined_83 rfl rfl ?_
  refine ep_icmp_ne (tgt := 91) dX5_joined_84 (by decide) (fun c1 => ?_) (fun c1 => ?_)
  · skip
    refine ep_iconst (v := 0) dX5_joined_91 (by decide) ?_
    refine ep_iret dX5_joined_92 rfl rfl ?_
    exact ⟨rfl, by simp only [z_jn]; first | rfl | (simp_all) | (simp only [Int32.lt_iff_toInt_lt, Int32.le_iff_toInt_le] at *; simp_all; try omega)⟩
  · skip
    refine ep_iconst (v := 1) dX5_joined_87 (by decide) ?_
    refine ep_goto (tgt := 92) dX5_joined_88 (by decide) ?_
    refine ep_iret dX5_joined_92 rfl rfl ?_
    exact ⟨rfl, by simp only [z_jn]; first | rfl | (simp_all) | (simp only [Int32.lt_iff_toInt_lt, Int32.le_iff_toInt_le] at *; simp_all; try omega)⟩
theorem q_X5_joined_43 {σ : eb_S} (d : Nat) (x y : Int32) : eb_Q mX5_joined d [.int 43, .int x, .int y] σ (eb_r (z_jn 43 x y) σ) := by
  refine ep_meth pn_X.2.2.2.2.2.1 (Nat.le_of_ble_eq_true rfl) ?_
  show eb_P mX5_joined (d) 0 [(0, .int 43), (1, .int x), (2, .int y)] [] σ _
  refine ep_iload_n (i := 0) dX5_joined_0 rfl rfl ?_
  refine ep_lookup (off := 92) (tgt := 93) dX5_joined_1 (by decide) (by decide) (by decide) ?_
  refine ep_iload_n (i := 1) dX5_joined_93 rfl rfl ?_
  refine ep_iload_n (i := 2) dX5_joined_94 rfl rfl ?_
  refine ep_iadd dX5_joined_95 ?_
  refine ep_iret dX5_joined_96 rfl rfl ?_
  exact ⟨rfl, by first | rfl | (simp_all [z_jn])⟩
theorem q_X5_joined_45 {σ : eb_S} (d : Nat) (x y : Int32) : eb_Q mX5_joined d [.int 45, .int x, .int y] σ (eb_r (z_jn 45 x y) σ) := by
  refine ep_meth pn_X.2.2.2.2.2.1 (Nat.le_of_ble_eq_true rfl) ?_
  show eb_P mX5_joined (d) 0 [(0, .int 45), (1, .int x), (2, .int y)] [] σ _
  refine ep_iload_n (i := 0) dX5_joined_0 rfl rfl ?_
  refine ep_lookup (off := 96) (tgt := 97) dX5_joined_1 (by decide) (by decide) (by decide) ?_
  refine ep_iload_n (i := 1) dX5_joined_97 rfl rfl ?_
  refine ep_iload_n (i := 2) dX5_joined_98 rfl rfl ?_
  refine ep_isub dX5_joined_99 ?_
  refine ep_iret dX5_joined_100 rfl rfl ?_
  exact ⟨rfl, by first | rfl | (simp_all [z_jn])⟩
theorem q_X5_joined_42 {σ : eb_S} (d : Nat) (x y : Int32) : eb_Q mX5_joined d [.int 42, .int x, .int y] σ (eb_r (z_jn 42 x y) σ) := by
  refine ep_meth pn_X.2.2.2.2.2.1 (Nat.le_of_ble_eq_true rfl) ?_
  show eb_P mX5_joined (d) 0 [(0, .int 42), (1, .int x), (2, .int y)] [] σ _
  refine ep_iload_n (i := 0) dX5_joined_0 rfl rfl ?_
  refine ep_lookup (off := 100) (tgt := 101) dX5_joined_1 (by decide) (by decide) (by decide) ?_
  refine ep_iload_n (i := 1) dX5_joined_101 rfl rfl ?_
  refine ep_iload_n (i := 2) dX5_joined_102 rfl rfl ?_
  refine ep_imul dX5_joined_103 ?_
  refine ep_iret dX5_joined_104 rfl rfl ?_
  exact ⟨rfl, by first | rfl | (simp_all [z_jn])⟩
theorem z_toI {sg : Int32} {k : Int32} (h : sg ≠ k) : ¬ sg.toInt = k.toInt := fun g => h (Int32.toInt_inj.mp g)
theorem z_lko {sg : Int32} (h0 : sg ≠ 60) (h1 : sg ≠ 62) (h2 : sg ≠ 61) (h3 : sg ≠ 43) (h4 : sg ≠ 45) (h5 : sg ≠ 42) : Op.lookupswitch.offset (#[((42 : Int), (100 : Int)), (43, 92), (45, 96), (60, 59), (61, 81), (62, 70)]).toList 104 sg.toInt = 104 := by
  have e0 : ¬ sg.toInt = 60 := z_toI h0
  have e1 : ¬ sg.toInt = 62 := z_toI h1
  have e2 : ¬ sg.toInt = 61 := z_toI h2
  have e3 : ¬ sg.toInt = 43 := z_toI h3
  have e4 : ¬ sg.toInt = 45 := z_toI h4
  have e5 : ¬ sg.toInt = 42 := z_toI h5
  simp [Op.lookupswitch.offset, e0, e1, e2, e3, e4, e5, Ne.symm, eq_comm]
theorem q_X5_joined_o {σ : eb_S} (d : Nat) {sg : Int32} (h0 : sg ≠ 60) (h1 : sg ≠ 62) (h2 : sg ≠ 61) (h3 : sg ≠ 43) (h4 : sg ≠ 45) (h5 : sg ≠ 42) (x y : Int32) : eb_Q mX5_joined d [.int sg, .int x, .int y] σ (eb_r (z_jn sg x y) σ) := by
  refine ep_meth pn_X.2.2.2.2.2.1 (Nat.le_of_ble_eq_true rfl) ?_
  show eb_P mX5_joined (d) 0 [(0, .int sg), (1, .int x), (2, .int y)] [] σ _
  refine ep_iload_n (i := 0) dX5_joined_0 rfl rfl ?_
  refine ep_lookup (off := 104) (tgt := 105) dX5_joined_1 (by decide) (z_lko h0 h1 h2 h3 h4 h5) (by decide) ?_
  refine ep_iload_n (i := 2) dX5_joined_105 rfl rfl ?_
  refine ep_if_ne (tgt := 113) dX5_joined_106 (by decide) (fun c1 => ?_) (fun c1 => ?_)
  · skip
    refine ep_iload_n (i := 1) dX5_joined_113 rfl rfl ?_
    refine ep_iload_n (i := 2) dX5_joined_114 rfl rfl ?_
    refine ep_idiv dX5_joined_115 (by assumption) ?_
    refine ep_iret dX5_joined_116 rfl rfl ?_
    exact ⟨rfl, by simp_all [z_jn]⟩
  · skip
    refine ep_iconst (v := 0) dX5_joined_109 (by decide) ?_
    refine ep_goto (tgt := 116) dX5_joined_110 (by decide) ?_
    refine ep_iret dX5_joined_116 rfl rfl ?_
    exact ⟨rfl, by simp_all [z_jn]⟩
theorem q_X5_joined {σ : eb_S} (d : Nat) (sg x y : Int32) : eb_Q mX5_joined d [.int sg, .int x, .int y] σ (eb_r (z_jn sg x y) σ) := by
  by_cases h0 : sg = 60
  · subst h0; exact q_X5_joined_60 d x y
  by_cases h1 : sg = 62
  · subst h1; exact q_X5_joined_62 d x y
  by_cases h2 : sg = 61
  · subst h2; exact q_X5_joined_61 d x y
  by_cases h3 : sg = 43
  · subst h3; exact q_X5_joined_43 d x y
  by_cases h4 : sg = 45
  · subst h4; exact q_X5_joined_45 d x y
  by_cases h5 : sg = 42
  · subst h5; exact q_X5_joined_42 d x y
  exact q_X5_joined_o d h0 h1 h2 h3 h4 h5 x y
/-- the first of f's places hold u, the latest last -/
def z_lay (f : Nat → Int32) (u : List Int32) : Prop := ∀ q, q < u.length → f q = u.getD (u.length - 1 - q) 0
theorem z_lay_hd {f : Nat → Int32} {y : Int32} {u : List Int32} (h : z_lay f (y :: u)) : f u.length = y := by
  have := h u.length (by simp)
  simpa using this
theorem z_lay_tl {f : Nat → Int32} {y : Int32} {u : List Int32} (h : z_lay f (y :: u)) : z_lay f u := by
  intro q hq
  have h1 := h q (by simp; omega)
  rw [h1]
  have e : (y :: u).length - 1 - q = (u.length - 1 - q) + 1 := by simp; omega
  rw [e]
  simp [List.getD]
theorem z_lay_push {f g : Nat → Int32} {v : Int32} {u : List Int32} (h : z_lay f u) (hg : ∀ q, g q = if q = u.length then v else f q) : z_lay g (v :: u) := by
  intro q hq
  rw [hg q]
  by_cases e : q = u.length
  · rw [if_pos e, e]; simp
  · rw [if_neg e]
    have hq2 : q < u.length := by simp at hq; omega
    rw [h q hq2]
    have e2 : (v :: u).length - 1 - q = (u.length - 1 - q) + 1 := by simp; omega
    rw [e2]
    simp [List.getD]
theorem nI_m2 (k : Nat) : nI (k + 2) + (-2) = nI k := by
  rw [show nI (k + 2) = nI k + 2 from (nI_add k 2).symm, Int32.add_assoc, show (2 : Int32) + -2 = 0 from by decide, Int32.add_zero]
theorem q_X5_valueBy {n : Nat} {sl : Nat × Nat} {kd : Nat → Nat × Nat} {I : Nat → Nat → Int32} {L : Nat → Nat → Int64} {Rf : Nat → Nat → Option Nat} (d : Nat) {i t s : Nat} (h : eb_rul n kd Rf i) (ht : t < n ∧ kd t = (20, 7)) (htn : t ≠ i + 3) (hs : I i 4 = nI s) (hs4 : s ≤ 40) : eb_Q mX5_valueBy (d + 1) [.ref i, .ref t] (n, sl, kd, I, L, Rf) (eb_ri n sl kd L Rf (z_val (I (i + 1)) (I t) s) (fun I1 => ∀ b, b ≠ i + 3 → I1 b = I b)) := by
  refine ep_meth pn_X.2.2.2.2.2.1 (Nat.le_of_ble_eq_true rfl) ?_
  show eb_P mX5_valueBy (d + 1) 0 [(0, .ref i), (1, .ref t)] [] (n, sl, kd, I, L, Rf) _
  refine ep_iconst (v := 0) dX5_valueBy_0 (by decide) ?_
  refine ep_istore_n (l' := [(2, .int 0), (0, .ref i), (1, .ref t)]) dX5_valueBy_1 rfl (by decide) rfl ?_
  refine ep_iconst (v := 0) dX5_valueBy_2 (by decide) ?_
  refine ep_istore_n (l' := [(3, .int 0), (2, .int 0), (0, .ref i), (1, .ref t)]) dX5_valueBy_3 rfl (by decide) rfl ?_
  refine ep_eq (l2 := [(3, .int (nI 0)), (2, .int (nI 0)), (0, .ref i), (1, .ref t)]) rfl (by rw [nI_0]) rfl rfl ?_
  refine ep_for s (fun k (a : (Nat → Nat → Int32) × List Int32) => ([(3, .int (nI k)), (2, .int (nI a.2.length)), (0, .ref i), (1, .ref t)], (n, sl, kd, a.1, L, Rf))) (fun k a => a.2 = z_rs (I (i + 1)) (I t) k ∧ a.2.length ≤ k ∧ z_lay (a.1 (i + 3)) a.2 ∧ ∀ b, b ≠ i + 3 → a.1 b = I b) ?_ ?_ s 0 (I, []) (by omega) ⟨rfl, Nat.zero_le _, fun q hq => absurd hq (Nat.not_lt_zero q), fun _ _ => rfl⟩
  · rintro k ⟨Im, u⟩ hk hinv ih
    obtain ⟨cd, hcd⟩ : ∃ cd, cd = I (i + 1) k := ⟨_, rfl⟩
    have hinv : u = z_rs (I (i + 1)) (I t) k ∧ u.length ≤ k ∧ z_lay (Im (i + 3)) u ∧ ∀ b, b ≠ i + 3 → Im b = I b := hinv
    have J : ∀ (v : Int32) (r : List Int32), r.length ≤ k → z_lay (Im (i + 3)) r → z_stp (I t) (I (i + 1) k) u = v :: r → eb_P mX5_valueBy (d + 1) 116 [(6, .int v), (2, .int (nI r.length)), (3, .int (nI k)), (0, .ref i), (1, .ref t)] [] (n, sl, kd, Im, L, Rf) (eb_ri n sl kd L Rf (z_val (I (i + 1)) (I t) s) (fun I1 => ∀ b, b ≠ i + 3 → I1 b = I b)) := by
      intro v r hrk hlay hz
      refine ep_iload_n (i := 2) dX5_valueBy_116 rfl rfl ?_
      refine ep_aload_n (i := 0) dX5_valueBy_117 rfl rfl ?_
      refine ep_getR dX5_valueBy_118 flX5_18 (by have := h.2.2.2.2.2.2.2.2.2.1; omega) h.1 h.2.2.2.2.2.2.2.1 ?_
      refine ep_alen (v := 40) dX5_valueBy_121 (by have := h.2.2.2.2.2.2.2.2.2.1; omega) h.2.2.2.1 (by decide) (by decide) ?_
      refine ep_icmp_ge (tgt := 136) dX5_valueBy_122 (by decide) (fun c1 => absurd c1 (nI_ge (a := r.length) (b := 40) (by omega) (by decide))) (fun c1 => ?_)
      refine ep_aload_n (i := 0) dX5_valueBy_125 rfl rfl ?_
      refine ep_getR dX5_valueBy_126 flX5_18 (by have := h.2.2.2.2.2.2.2.2.2.1; omega) h.1 h.2.2.2.2.2.2.2.1 ?_
      refine ep_iload_n (i := 2) dX5_valueBy_129 rfl rfl ?_
      refine ep_iload (i := 6) dX5_valueBy_130 rfl ?_
      refine ep_isN dX5_valueBy_132 (by have := h.2.2.2.2.2.2.2.2.2.1; omega) (by have := h.2.2.2.2.2.2.2.2.2; omega) h.2.2.2.1 (by omega) (by decide) ?_
      refine ep_nmI (fun I2 hI2 => ?_)
      refine ep_iinc (v := (nI (r.length + 1))) (l' := [(2, .int ((nI (r.length + 1)))), (6, .int v), (3, .int (nI k)), (0, .ref i), (1, .ref t)]) dX5_valueBy_133 rfl (nI_1 _) (by decide) rfl ?_
      refine ep_iinc (v := (nI (k + 1))) (l' := [(3, .int ((nI (k + 1)))), (2, .int ((nI (r.length + 1)))), (6, .int v), (0, .ref i), (1, .ref t)]) dX5_valueBy_136 rfl (nI_1 _) (by decide) rfl ?_
      refine ep_goto (tgt := 4) dX5_valueBy_139 (by decide) ?_
      refine ep_sub (l' := [(3, .int (nI (k + 1))), (2, .int (nI (r.length + 1))), (0, .ref i), (1, .ref t)]) [0, 1, 3, 4] rfl ?_
      refine ih (I2, v :: r) ⟨by rw [z_rs, ← hinv.1]; exact hz.symm, by simp; omega, z_lay_push hlay (fun q => by simp [hI2, z_set]), fun b hb => by show I2 b = I b; rw [hI2, z_set_ne hb]; exact hinv.2.2.2 b hb⟩
    rw [← hcd] at J
    show eb_P _ _ 4 [(3, .int (nI k)), (2, .int (nI u.length)), (0, .ref i), (1, .ref t)] [] (n, sl, kd, Im, L, Rf) _
    refine ep_iload_n (i := 3) dX5_valueBy_4 rfl rfl ?_
    refine ep_aload_n (i := 0) dX5_valueBy_5 rfl rfl ?_
    refine ep_getI dX5_valueBy_6 flX5_59 (by have := h.2.2.2.2.2.2.2.2.2.1; omega) h.1 ?_
    refine ep_topE (y := nI s) (by rw [hinv.2.2.2 i (by omega)]; exact hs) ?_
    refine ep_icmp_ge (tgt := 142) dX5_valueBy_9 (by decide) (fun c3 => absurd c3 (nI_ge hk (by omega))) (fun c3 => ?_)
    refine ep_aload_n (i := 0) dX5_valueBy_12 rfl rfl ?_
    refine ep_getR dX5_valueBy_13 flX5_11 (by have := h.2.2.2.2.2.2.2.2.2.1; omega) h.1 h.2.2.2.2.2.1 ?_
    refine ep_iload_n (i := 3) dX5_valueBy_16 rfl rfl ?_
    refine ep_iaN dX5_valueBy_17 (by have := h.2.2.2.2.2.2.2.2.2.1; omega) h.2.1 (by omega) (by decide) ?_
    refine ep_topE (y := cd) (by rw [hinv.2.2.2 (i + 1) (by omega)]; exact hcd.symm) ?_
    refine ep_istore (l' := [(4, .int cd), (3, .int (nI k)), (2, .int (nI u.length)), (0, .ref i), (1, .ref t)]) dX5_valueBy_18 (by decide) rfl ?_
    refine ep_iconst (v := (-1)) dX5_valueBy_20 (by decide) ?_
    refine ep_iload (i := 4) dX5_valueBy_21 rfl ?_
    refine ep_isub dX5_valueBy_23 ?_
    refine ep_topi (fun lt hlt => ?_)
    refine ep_istore (l' := [(5, .int lt), (4, .int cd), (3, .int (nI k)), (2, .int (nI u.length)), (0, .ref i), (1, .ref t)]) dX5_valueBy_24 (by decide) rfl ?_
    refine ep_iconst (v := 0) dX5_valueBy_26 (by decide) ?_
    refine ep_istore (l' := [(6, .int 0), (5, .int lt), (4, .int cd), (3, .int (nI k)), (2, .int (nI u.length)), (0, .ref i), (1, .ref t)]) dX5_valueBy_27 (by decide) rfl ?_
    refine ep_iload (i := 4) dX5_valueBy_29 rfl ?_
    refine ep_if_lt (tgt := 41) dX5_valueBy_31 (by decide) (fun c4 => ?_) (fun c4 => ?_)
    · skip
      refine ep_iload (i := 5) dX5_valueBy_41 rfl ?_
      refine ep_aload_n (i := 1) dX5_valueBy_43 rfl rfl ?_
      refine ep_alen (v := 7) dX5_valueBy_44 ht.1 ht.2 (by decide) (by decide) ?_
      refine ep_icmp_ge (tgt := 57) dX5_valueBy_45 (by decide) (fun c5 => ?_) (fun c5 => ?_)
      · skip
        rcases u with _ | ⟨y, _ | ⟨x, r⟩⟩
        · show eb_P _ _ 57 [(6, .int 0), (5, .int lt), (4, .int cd), (3, .int (nI k)), (2, .int (nI 0)), (0, .ref i), (1, .ref t)] [] (n, sl, kd, Im, L, Rf) _
          refine ep_iload (i := 4) dX5_valueBy_57 rfl ?_
          refine ep_sipush (v := (-356)) dX5_valueBy_59 (by decide) ?_
          refine ep_icmp_ne (tgt := 84) dX5_valueBy_62 (by decide) (fun c6 => ?_) (fun c6 => ?_)
          · skip
            refine ep_iload_n (i := 2) dX5_valueBy_84 rfl rfl ?_
            refine ep_iconst (v := 1) dX5_valueBy_85 (by decide) ?_
            refine ep_icmp_le (tgt := 116) dX5_valueBy_86 (by decide) (fun c7 => ?_) (fun c7 => absurd (by decide) c7)
            refine ep_sub (l' := [(6, .int 0), (2, .int (nI 0)), (3, .int (nI k)), (0, .ref i), (1, .ref t)]) [0, 4, 3, 5, 6] rfl ?_
            exact J 0 [] (Nat.zero_le _) hinv.2.2.1 (z_stp_0 (by assumption) hlt (by assumption))
          · skip
            refine ep_iload_n (i := 2) dX5_valueBy_65 rfl rfl ?_
            refine ep_if_le (tgt := 84) dX5_valueBy_66 (by decide) (fun c8 => ?_) (fun c8 => absurd (by decide) c8)
            refine ep_iload_n (i := 2) dX5_valueBy_84 rfl rfl ?_
            refine ep_iconst (v := 1) dX5_valueBy_85 (by decide) ?_
            refine ep_icmp_le (tgt := 116) dX5_valueBy_86 (by decide) (fun c9 => ?_) (fun c9 => absurd (by decide) c9)
            refine ep_sub (l' := [(6, .int 0), (2, .int (nI 0)), (3, .int (nI k)), (0, .ref i), (1, .ref t)]) [0, 4, 3, 5, 6] rfl ?_
            exact J 0 [] (Nat.zero_le _) hinv.2.2.1 (z_stp_0 (by assumption) hlt (by assumption))
        · show eb_P _ _ 57 [(6, .int 0), (5, .int lt), (4, .int cd), (3, .int (nI k)), (2, .int (nI 1)), (0, .ref i), (1, .ref t)] [] (n, sl, kd, Im, L, Rf) _
          refine ep_iload (i := 4) dX5_valueBy_57 rfl ?_
          refine ep_sipush (v := (-356)) dX5_valueBy_59 (by decide) ?_
          refine ep_icmp_ne (tgt := 84) dX5_valueBy_62 (by decide) (fun c10 => ?_) (fun c10 => ?_)
          · skip
            refine ep_iload_n (i := 2) dX5_valueBy_84 rfl rfl ?_
            refine ep_iconst (v := 1) dX5_valueBy_85 (by decide) ?_
            refine ep_icmp_le (tgt := 116) dX5_valueBy_86 (by decide) (fun c11 => ?_) (fun c11 => absurd (by decide) c11)
            refine ep_sub (l' := [(6, .int 0), (2, .int (nI 1)), (3, .int (nI k)), (0, .ref i), (1, .ref t)]) [0, 4, 3, 5, 6] rfl ?_
            exact J 0 [y] hinv.2.1 hinv.2.2.1 (z_stp_1 (by assumption) hlt (by assumption) (by assumption))
          · skip
            refine ep_iload_n (i := 2) dX5_valueBy_65 rfl rfl ?_
            refine ep_if_le (tgt := 84) dX5_valueBy_66 (by decide) (fun c12 => absurd c12 (by decide)) (fun c12 => ?_)
            refine ep_iinc (v := (nI 0)) (l' := [(2, .int ((nI 0))), (6, .int 0), (5, .int lt), (4, .int cd), (3, .int (nI k)), (0, .ref i), (1, .ref t)]) dX5_valueBy_69 rfl (pk_m1 0) (by decide) rfl ?_
            refine ep_aload_n (i := 0) dX5_valueBy_72 rfl rfl ?_
            refine ep_getR dX5_valueBy_73 flX5_18 (by have := h.2.2.2.2.2.2.2.2.2.1; omega) h.1 h.2.2.2.2.2.2.2.1 ?_
            refine ep_iload_n (i := 2) dX5_valueBy_76 rfl rfl ?_
            refine ep_iaN dX5_valueBy_77 (by have := h.2.2.2.2.2.2.2.2.2.1; omega) h.2.2.2.1 (by have := hinv.2.1; simp at this; omega) (by decide) ?_
            refine ep_topE (y := y) (z_lay_hd (u := []) hinv.2.2.1) ?_
            refine ep_ineg dX5_valueBy_78 ?_
            refine ep_istore (l' := [(6, .int (-y)), (2, .int ((nI 0))), (5, .int lt), (4, .int cd), (3, .int (nI k)), (0, .ref i), (1, .ref t)]) dX5_valueBy_79 (by decide) rfl ?_
            refine ep_goto (tgt := 116) dX5_valueBy_81 (by decide) ?_
            refine ep_sub (l' := [(6, .int (-y)), (2, .int ((nI 0))), (3, .int (nI k)), (0, .ref i), (1, .ref t)]) [0, 1, 4, 5, 6] rfl ?_
            exact J (-y) [] (Nat.zero_le _) (z_lay_tl hinv.2.2.1) (z_stp_m (by assumption) hlt (by assumption) (Classical.not_not.mp (by assumption)))
        · show eb_P _ _ 57 [(6, .int 0), (5, .int lt), (4, .int cd), (3, .int (nI k)), (2, .int (nI (r.length + 2))), (0, .ref i), (1, .ref t)] [] (n, sl, kd, Im, L, Rf) _
          refine ep_iload (i := 4) dX5_valueBy_57 rfl ?_
          refine ep_sipush (v := (-356)) dX5_valueBy_59 (by decide) ?_
          refine ep_icmp_ne (tgt := 84) dX5_valueBy_62 (by decide) (fun c13 => ?_) (fun c13 => ?_)
          · skip
            refine ep_iload_n (i := 2) dX5_valueBy_84 rfl rfl ?_
            refine ep_iconst (v := 1) dX5_valueBy_85 (by decide) ?_
            refine ep_icmp_le (tgt := 116) dX5_valueBy_86 (by decide) (fun c14 => absurd c14 (nI_ge (a := 1) (b := r.length + 2) (by omega) (by have := hinv.2.1; simp at this; omega))) (fun c14 => ?_)
            refine ep_iinc (v := (nI r.length)) (l' := [(2, .int ((nI r.length))), (6, .int 0), (5, .int lt), (4, .int cd), (3, .int (nI k)), (0, .ref i), (1, .ref t)]) dX5_valueBy_89 rfl (nI_m2 r.length) (by decide) rfl ?_
            refine ep_bipush (v := (-100)) dX5_valueBy_92 (by decide) ?_
            refine ep_iload (i := 4) dX5_valueBy_94 rfl ?_
            refine ep_isub dX5_valueBy_96 ?_
            refine ep_aload_n (i := 0) dX5_valueBy_97 rfl rfl ?_
            refine ep_getR dX5_valueBy_98 flX5_18 (by have := h.2.2.2.2.2.2.2.2.2.1; omega) h.1 h.2.2.2.2.2.2.2.1 ?_
            refine ep_iload_n (i := 2) dX5_valueBy_101 rfl rfl ?_
            refine ep_iaN dX5_valueBy_102 (by have := h.2.2.2.2.2.2.2.2.2.1; omega) h.2.2.2.1 (by have := hinv.2.1; simp at this; omega) (by decide) ?_
            refine ep_topE (y := x) (z_lay_hd (z_lay_tl hinv.2.2.1)) ?_
            refine ep_aload_n (i := 0) dX5_valueBy_103 rfl rfl ?_
            refine ep_getR dX5_valueBy_104 flX5_18 (by have := h.2.2.2.2.2.2.2.2.2.1; omega) h.1 h.2.2.2.2.2.2.2.1 ?_
            refine ep_iload_n (i := 2) dX5_valueBy_107 rfl rfl ?_
            refine ep_iconst (v := 1) dX5_valueBy_108 (by decide) ?_
            refine ep_iadd dX5_valueBy_109 ?_
            refine ep_topE (y := nI (r.length + 1)) (nI_1 _) ?_
            refine ep_iaN dX5_valueBy_110 (by have := h.2.2.2.2.2.2.2.2.2.1; omega) h.2.2.2.1 (by have := hinv.2.1; simp at this; omega) (by decide) ?_
            refine ep_topE (y := y) (z_lay_hd (u := x :: r) hinv.2.2.1) ?_
            refine ep_callS (M1 := mX5_joined) (rest := []) dX5_valueBy_111 mlX5_60 msX5_joined rfl (Nat.le_of_ble_eq_true rfl) rfl (q_X5_joined d ((-100) - cd) x y) eb_rok ?_
            rintro _ _ ⟨rfl, rfl⟩
            show eb_P _ _ 114 [(2, .int ((nI r.length))), (6, .int 0), (5, .int lt), (4, .int cd), (3, .int (nI k)), (0, .ref i), (1, .ref t)] (.int (z_jn ((-100) - cd) x y) :: []) _ _
            refine ep_istore (l' := [(6, .int (z_jn ((-100) - cd) x y)), (2, .int ((nI r.length))), (5, .int lt), (4, .int cd), (3, .int (nI k)), (0, .ref i), (1, .ref t)]) dX5_valueBy_114 (by decide) rfl ?_
            refine ep_sub (l' := [(6, .int (z_jn ((-100) - cd) x y)), (2, .int ((nI r.length))), (3, .int (nI k)), (0, .ref i), (1, .ref t)]) [0, 1, 4, 5, 6] rfl ?_
            exact J (z_jn ((-100) - cd) x y) r (by have := hinv.2.1; simp at this; omega) (z_lay_tl (z_lay_tl hinv.2.2.1)) (z_stp_2 (by assumption) hlt (by assumption) (by assumption))
          · skip
            refine ep_iload_n (i := 2) dX5_valueBy_65 rfl rfl ?_
            refine ep_if_le (tgt := 84) dX5_valueBy_66 (by decide) (fun c15 => absurd c15 (fun g => absurd g (by have g1 := nI_lt (a := 0) (b := r.length + 2) (by omega) (by have := hinv.2.1; simp at this; omega); rw [nI_0] at g1; exact Int32.not_le.mpr g1))) (fun c15 => ?_)
            refine ep_iinc (v := (nI (r.length + 1))) (l' := [(2, .int ((nI (r.length + 1)))), (6, .int 0), (5, .int lt), (4, .int cd), (3, .int (nI k)), (0, .ref i), (1, .ref t)]) dX5_valueBy_69 rfl (pk_m1 (r.length + 1)) (by decide) rfl ?_
            refine ep_aload_n (i := 0) dX5_valueBy_72 rfl rfl ?_
            refine ep_getR dX5_valueBy_73 flX5_18 (by have := h.2.2.2.2.2.2.2.2.2.1; omega) h.1 h.2.2.2.2.2.2.2.1 ?_
            refine ep_iload_n (i := 2) dX5_valueBy_76 rfl rfl ?_
            refine ep_iaN dX5_valueBy_77 (by have := h.2.2.2.2.2.2.2.2.2.1; omega) h.2.2.2.1 (by have := hinv.2.1; simp at this; omega) (by decide) ?_
            refine ep_topE (y := y) (z_lay_hd (u := x :: r) hinv.2.2.1) ?_
            refine ep_ineg dX5_valueBy_78 ?_
            refine ep_istore (l' := [(6, .int (-y)), (2, .int ((nI (r.length + 1)))), (5, .int lt), (4, .int cd), (3, .int (nI k)), (0, .ref i), (1, .ref t)]) dX5_valueBy_79 (by decide) rfl ?_
            refine ep_goto (tgt := 116) dX5_valueBy_81 (by decide) ?_
            refine ep_sub (l' := [(6, .int (-y)), (2, .int ((nI (r.length + 1)))), (3, .int (nI k)), (0, .ref i), (1, .ref t)]) [0, 1, 4, 5, 6] rfl ?_
            exact J (-y) (x :: r) (by have := hinv.2.1; simp at this ⊢; omega) (z_lay_tl hinv.2.2.1) (z_stp_m (by assumption) hlt (by assumption) (Classical.not_not.mp (by assumption)))
      · skip
        refine ep_aload_n (i := 1) dX5_valueBy_48 rfl rfl ?_
        refine ep_iload (i := 5) dX5_valueBy_49 rfl ?_
        refine ep_iald dX5_valueBy_51 ht.1 ht.2 (by obtain ⟨j, hj, e⟩ := pk_of (x := lt) (c := 7) (by decide) (z_ltp (by assumption) hlt) (Int32.not_le.mp (by assumption)); rw [e]; exact vp_in_nI hj (by decide)) ?_
        refine ep_istore (l' := [(6, .int (Im t lt.toNatClampNeg)), (5, .int lt), (4, .int cd), (3, .int (nI k)), (2, .int (nI u.length)), (0, .ref i), (1, .ref t)]) dX5_valueBy_52 (by decide) rfl ?_
        refine ep_goto (tgt := 116) dX5_valueBy_54 (by decide) ?_
        refine ep_sub (l' := [(6, .int (Im t lt.toNatClampNeg)), (2, .int (nI u.length)), (3, .int (nI k)), (0, .ref i), (1, .ref t)]) [0, 4, 3, 5, 6] rfl ?_
        exact J (Im t lt.toNatClampNeg) u hinv.2.1 hinv.2.2.1 (by rw [hinv.2.2.2 t htn]; exact z_stp_l (by assumption) hlt (by assumption))
    · skip
      refine ep_iload (i := 4) dX5_valueBy_34 rfl ?_
      refine ep_istore (l' := [(6, .int cd), (5, .int lt), (4, .int cd), (3, .int (nI k)), (2, .int (nI u.length)), (0, .ref i), (1, .ref t)]) dX5_valueBy_36 (by decide) rfl ?_
      refine ep_goto (tgt := 116) dX5_valueBy_38 (by decide) ?_
      refine ep_sub (l' := [(6, .int cd), (2, .int (nI u.length)), (3, .int (nI k)), (0, .ref i), (1, .ref t)]) [0, 4, 3, 5, 6] rfl ?_
      exact J cd u hinv.2.1 hinv.2.2.1 (z_stp_n (Int32.not_lt.mp (by assumption)))
  · rintro ⟨Im, u⟩ hinv
    have hinv : u = z_rs (I (i + 1)) (I t) s ∧ u.length ≤ s ∧ z_lay (Im (i + 3)) u ∧ ∀ b, b ≠ i + 3 → Im b = I b := hinv
    show eb_P _ _ 4 [(3, .int (nI s)), (2, .int (nI u.length)), (0, .ref i), (1, .ref t)] [] (n, sl, kd, Im, L, Rf) _
    refine ep_iload_n (i := 3) dX5_valueBy_4 rfl rfl ?_
    refine ep_aload_n (i := 0) dX5_valueBy_5 rfl rfl ?_
    refine ep_getI dX5_valueBy_6 flX5_59 (by have := h.2.2.2.2.2.2.2.2.2.1; omega) h.1 ?_
    refine ep_topE (y := nI s) (by rw [hinv.2.2.2 i (by omega)]; exact hs) ?_
    refine ep_icmp_ge (tgt := 142) dX5_valueBy_9 (by decide) (fun c16 => ?_) (fun c16 => absurd (nI_le (Nat.le_refl _) (by omega)) c16)
    rcases u with _ | ⟨y, r⟩
    · show eb_P _ _ 142 [(3, .int (nI s)), (2, .int (nI 0)), (0, .ref i), (1, .ref t)] [] (n, sl, kd, Im, L, Rf) _
      refine ep_iload_n (i := 2) dX5_valueBy_142 rfl rfl ?_
      refine ep_if_le (tgt := 157) dX5_valueBy_143 (by decide) (fun c17 => ?_) (fun c17 => absurd (by decide) c17)
      refine ep_iconst (v := 0) dX5_valueBy_157 (by decide) ?_
      refine ep_iret dX5_valueBy_158 rfl rfl ?_
      exact ⟨by rw [z_val, ← hinv.1]; rfl, _, rfl, hinv.2.2.2⟩
    · show eb_P _ _ 142 [(3, .int (nI s)), (2, .int (nI (r.length + 1))), (0, .ref i), (1, .ref t)] [] (n, sl, kd, Im, L, Rf) _
      refine ep_iload_n (i := 2) dX5_valueBy_142 rfl rfl ?_
      refine ep_if_le (tgt := 157) dX5_valueBy_143 (by decide) (fun c18 => absurd c18 (fun g => absurd g (by have g1 := nI_lt (a := 0) (b := r.length + 1) (by omega) (by have := hinv.2.1; simp at this; omega); rw [nI_0] at g1; exact Int32.not_le.mpr g1))) (fun c18 => ?_)
      refine ep_aload_n (i := 0) dX5_valueBy_146 rfl rfl ?_
      refine ep_getR dX5_valueBy_147 flX5_18 (by have := h.2.2.2.2.2.2.2.2.2.1; omega) h.1 h.2.2.2.2.2.2.2.1 ?_
      refine ep_iload_n (i := 2) dX5_valueBy_150 rfl rfl ?_
      refine ep_iconst (v := 1) dX5_valueBy_151 (by decide) ?_
      refine ep_isub dX5_valueBy_152 ?_
      refine ep_topE (y := nI r.length) (by rw [show (1 : Int32) = nI 1 from by decide, pk_sub (by omega)]; rfl) ?_
      refine ep_iaN dX5_valueBy_153 (by have := h.2.2.2.2.2.2.2.2.2.1; omega) h.2.2.2.1 (by have := hinv.2.1; simp at this; omega) (by decide) ?_
      refine ep_topE (y := y) (z_lay_hd hinv.2.2.1) ?_
      refine ep_goto (tgt := 158) dX5_valueBy_154 (by decide) ?_
      refine ep_iret dX5_valueBy_158 rfl rfl ?_
      exact ⟨by rw [z_val, ← hinv.1]; rfl, _, rfl, hinv.2.2.2⟩
