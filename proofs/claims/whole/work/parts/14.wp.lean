/-! THE JUDGEMENT P: from here the method ends with Φ (answer, memory); Q: a method called with these arguments does -/
def eb_P (M : eb_M) (d pc : Nat) (l : List (Nat × Value)) (st : List Value) (σ : eb_S) (Φ : Option Value → eb_S → Prop) : Prop := ∃ r τ, Φ r τ ∧ eb_V M d pc l st σ r τ
def eb_Q (M : eb_M) (d : Nat) (as : List Value) (σ : eb_S) (Φ : Option Value → eb_S → Prop) : Prop := ∃ r τ, Φ r τ ∧ eb_E M d as σ r τ
theorem eb_Q.to {M : eb_M} {d : Nat} {as : List Value} {σ : eb_S} {Φ Ψ : Option Value → eb_S → Prop} (h : eb_Q M d as σ Φ) (hi : ∀ r τ, Φ r τ → Ψ r τ) : eb_Q M d as σ Ψ := by
  obtain ⟨r, τ, h1, h2⟩ := h
  exact ⟨r, τ, hi r τ h1, h2⟩
theorem eb_P.to {M : eb_M} {d pc : Nat} {l : List (Nat × Value)} {st : List Value} {σ : eb_S} {Φ Ψ : Option Value → eb_S → Prop} (h : eb_P M d pc l st σ Φ) (hi : ∀ r τ, Φ r τ → Ψ r τ) : eb_P M d pc l st σ Ψ := by
  obtain ⟨r, τ, h1, h2⟩ := h
  exact ⟨r, τ, hi r τ h1, h2⟩
theorem ep_meth {M : eb_M} {d : Nat} {as : List Value} {σ : eb_S} {Φ : Option Value → eb_S → Prop} (hy : plainName M.1.cls = true) (hlen : (lg_sl as).length ≤ M.2.2.1) (k : eb_P M d 0 (lv_args 0 as) [] σ Φ) : eb_Q M d as σ Φ := by
  obtain ⟨r, τ, h1, h2⟩ := k
  exact ⟨r, τ, h1, eb_meth hy hlen h2⟩
section EPR
variable {M M1 : eb_M} {d pc : Nat} {l : List (Nat × Value)} {st rest as : List Value} {σ : eb_S} {Φ Ψ : Option Value → eb_S → Prop} {n : Nat} {sl : Nat × Nat} {kd : Nat → Nat × Nat} {I : Nat → Nat → Int32} {L : Nat → Nat → Int64} {Rf : Nat → Nat → Option Nat}
theorem ep_eq {pc2 : Nat} {l2 : List (Nat × Value)} {st2 : List Value} {σ2 : eb_S} (h0 : pc = pc2) (h1 : l = l2) (h2 : st = st2) (h3 : σ = σ2) (k : eb_P M d pc2 l2 st2 σ2 Φ) : eb_P M d pc l st σ Φ := by subst h0; subst h1; subst h2; subst h3; exact k
theorem ep_topi {x : Int32} (k : ∀ y : Int32, y = x → eb_P M d pc l (.int y :: st) σ Φ) : eb_P M d pc l (.int x :: st) σ Φ := k x rfl
theorem ep_nmI (k : ∀ I1 : Nat → Nat → Int32, I1 = I → eb_P M d pc l st (n, sl, kd, I1, L, Rf) Φ) : eb_P M d pc l st (n, sl, kd, I, L, Rf) Φ := k I rfl
theorem ep_nmL (k : ∀ L1 : Nat → Nat → Int64, L1 = L → eb_P M d pc l st (n, sl, kd, I, L1, Rf) Φ) : eb_P M d pc l st (n, sl, kd, I, L, Rf) Φ := k L rfl
theorem ep_nmR (k : ∀ R1 : Nat → Nat → Option Nat, R1 = Rf → eb_P M d pc l st (n, sl, kd, I, L, R1) Φ) : eb_P M d pc l st (n, sl, kd, I, L, Rf) Φ := k Rf rfl
theorem ep_sub {l' : List (Nat × Value)} (ks : List Nat) (h : lv_pick l ks = l') (k : eb_P M d pc l' st σ Φ) : eb_P M d pc l st σ Φ := by
  obtain ⟨r, τ, h7, v7⟩ := k
  exact ⟨r, τ, h7, eb_sub ks h v7⟩
theorem ep_iconst {n : Int} {v : Int32} (hd : decode M.2.1 pc = .ok (.iconst n, 1)) (hv : Int32.ofInt n = v) (k : eb_P M d (pc + 1) l (.int v :: st) σ Φ) : eb_P M d pc l (st) σ Φ := by
  obtain ⟨r, τ, h7, v7⟩ := k
  exact ⟨r, τ, h7, eb_iconst hd hv v7⟩
theorem ep_bipush {n : Int} {v : Int32} (hd : decode M.2.1 pc = .ok (.bipush n, 2)) (hv : (Int8.ofInt n).toInt32 = v) (k : eb_P M d (pc + 2) l (.int v :: st) σ Φ) : eb_P M d pc l (st) σ Φ := by
  obtain ⟨r, τ, h7, v7⟩ := k
  exact ⟨r, τ, h7, eb_bipush hd hv v7⟩
theorem ep_sipush {n : Int} {v : Int32} (hd : decode M.2.1 pc = .ok (.sipush n, 3)) (hv : (Int16.ofInt n).toInt32 = v) (k : eb_P M d (pc + 3) l (.int v :: st) σ Φ) : eb_P M d pc l (st) σ Φ := by
  obtain ⟨r, τ, h7, v7⟩ := k
  exact ⟨r, τ, h7, eb_sipush hd hv v7⟩
theorem ep_lconst {n : Fin 2} {v : Int64} (hd : decode M.2.1 pc = .ok (.lconst n, 1)) (hv : Int64.ofNat (n : Nat) = v) (k : eb_P M d (pc + 1) l (.long v :: st) σ Φ) : eb_P M d pc l (st) σ Φ := by
  obtain ⟨r, τ, h7, v7⟩ := k
  exact ⟨r, τ, h7, eb_lconst hd hv v7⟩
theorem ep_iadd {x y : Int32} (hd : decode M.2.1 pc = .ok (.iadd, 1)) (k : eb_P M d (pc + 1) l (.int (x + y) :: st) σ Φ) : eb_P M d pc l (.int y :: .int x :: st) σ Φ := by
  obtain ⟨r, τ, h7, v7⟩ := k
  exact ⟨r, τ, h7, eb_iadd hd v7⟩
theorem ep_isub {x y : Int32} (hd : decode M.2.1 pc = .ok (.isub, 1)) (k : eb_P M d (pc + 1) l (.int (x - y) :: st) σ Φ) : eb_P M d pc l (.int y :: .int x :: st) σ Φ := by
  obtain ⟨r, τ, h7, v7⟩ := k
  exact ⟨r, τ, h7, eb_isub hd v7⟩
theorem ep_imul {x y : Int32} (hd : decode M.2.1 pc = .ok (.imul, 1)) (k : eb_P M d (pc + 1) l (.int (x * y) :: st) σ Φ) : eb_P M d pc l (.int y :: .int x :: st) σ Φ := by
  obtain ⟨r, τ, h7, v7⟩ := k
  exact ⟨r, τ, h7, eb_imul hd v7⟩
theorem ep_iand {x y : Int32} (hd : decode M.2.1 pc = .ok (.iand, 1)) (k : eb_P M d (pc + 1) l (.int (x &&& y) :: st) σ Φ) : eb_P M d pc l (.int y :: .int x :: st) σ Φ := by
  obtain ⟨r, τ, h7, v7⟩ := k
  exact ⟨r, τ, h7, eb_iand hd v7⟩
theorem ep_ior {x y : Int32} (hd : decode M.2.1 pc = .ok (.ior, 1)) (k : eb_P M d (pc + 1) l (.int (x ||| y) :: st) σ Φ) : eb_P M d pc l (.int y :: .int x :: st) σ Φ := by
  obtain ⟨r, τ, h7, v7⟩ := k
  exact ⟨r, τ, h7, eb_ior hd v7⟩
theorem ep_ishl {x y : Int32} (hd : decode M.2.1 pc = .ok (.ishl, 1)) (k : eb_P M d (pc + 1) l (.int (x <<< (y &&& 31)) :: st) σ Φ) : eb_P M d pc l (.int y :: .int x :: st) σ Φ := by
  obtain ⟨r, τ, h7, v7⟩ := k
  exact ⟨r, τ, h7, eb_ishl hd v7⟩
theorem ep_ishr {x y : Int32} (hd : decode M.2.1 pc = .ok (.ishr, 1)) (k : eb_P M d (pc + 1) l (.int (x >>> (y &&& 31)) :: st) σ Φ) : eb_P M d pc l (.int y :: .int x :: st) σ Φ := by
  obtain ⟨r, τ, h7, v7⟩ := k
  exact ⟨r, τ, h7, eb_ishr hd v7⟩
theorem ep_idiv {x y : Int32} (hd : decode M.2.1 pc = .ok (.idiv, 1)) (hne : ¬ y = 0) (k : eb_P M d (pc + 1) l (.int (x / y) :: st) σ Φ) : eb_P M d pc l (.int y :: .int x :: st) σ Φ := by
  obtain ⟨r, τ, h7, v7⟩ := k
  exact ⟨r, τ, h7, eb_idiv hd hne v7⟩
theorem ep_irem {x y : Int32} (hd : decode M.2.1 pc = .ok (.irem, 1)) (hne : ¬ y = 0) (k : eb_P M d (pc + 1) l (.int (x - x / y * y) :: st) σ Φ) : eb_P M d pc l (.int y :: .int x :: st) σ Φ := by
  obtain ⟨r, τ, h7, v7⟩ := k
  exact ⟨r, τ, h7, eb_irem hd hne v7⟩
theorem ep_ineg {x : Int32} (hd : decode M.2.1 pc = .ok (.ineg, 1)) (k : eb_P M d (pc + 1) l (.int (-x) :: st) σ Φ) : eb_P M d pc l (.int x :: st) σ Φ := by
  obtain ⟨r, τ, h7, v7⟩ := k
  exact ⟨r, τ, h7, eb_ineg hd v7⟩
theorem ep_ladd {x y : Int64} (hd : decode M.2.1 pc = .ok (.ladd, 1)) (k : eb_P M d (pc + 1) l (.long (x + y) :: st) σ Φ) : eb_P M d pc l (.long y :: .long x :: st) σ Φ := by
  obtain ⟨r, τ, h7, v7⟩ := k
  exact ⟨r, τ, h7, eb_ladd hd v7⟩
theorem ep_lmul {x y : Int64} (hd : decode M.2.1 pc = .ok (.lmul, 1)) (k : eb_P M d (pc + 1) l (.long (x * y) :: st) σ Φ) : eb_P M d pc l (.long y :: .long x :: st) σ Φ := by
  obtain ⟨r, τ, h7, v7⟩ := k
  exact ⟨r, τ, h7, eb_lmul hd v7⟩
theorem ep_ldiv {x y : Int64} (hd : decode M.2.1 pc = .ok (.ldiv, 1)) (hne : ¬ y = 0) (k : eb_P M d (pc + 1) l (.long (x / y) :: st) σ Φ) : eb_P M d pc l (.long y :: .long x :: st) σ Φ := by
  obtain ⟨r, τ, h7, v7⟩ := k
  exact ⟨r, τ, h7, eb_ldiv hd hne v7⟩
theorem ep_lrem {x y : Int64} (hd : decode M.2.1 pc = .ok (.lrem, 1)) (hne : ¬ y = 0) (k : eb_P M d (pc + 1) l (.long (x - x / y * y) :: st) σ Φ) : eb_P M d pc l (.long y :: .long x :: st) σ Φ := by
  obtain ⟨r, τ, h7, v7⟩ := k
  exact ⟨r, τ, h7, eb_lrem hd hne v7⟩
theorem ep_i2l {x : Int32} {v : Int64} (hd : decode M.2.1 pc = .ok (.i2l, 1)) (hv : x.toInt64 = v) (k : eb_P M d (pc + 1) l (.long v :: st) σ Φ) : eb_P M d pc l (.int x :: st) σ Φ := by
  obtain ⟨r, τ, h7, v7⟩ := k
  exact ⟨r, τ, h7, eb_i2l hd hv v7⟩
theorem ep_i2b {x : Int32} {v : Int32} (hd : decode M.2.1 pc = .ok (.i2b, 1)) (hv : x.toInt8.toInt32 = v) (k : eb_P M d (pc + 1) l (.int v :: st) σ Φ) : eb_P M d pc l (.int x :: st) σ Φ := by
  obtain ⟨r, τ, h7, v7⟩ := k
  exact ⟨r, τ, h7, eb_i2b hd hv v7⟩
theorem ep_i2s {x : Int32} {v : Int32} (hd : decode M.2.1 pc = .ok (.i2s, 1)) (hv : x.toInt16.toInt32 = v) (k : eb_P M d (pc + 1) l (.int v :: st) σ Φ) : eb_P M d pc l (.int x :: st) σ Φ := by
  obtain ⟨r, τ, h7, v7⟩ := k
  exact ⟨r, τ, h7, eb_i2s hd hv v7⟩
theorem ep_i2c {x : Int32} {v : Int32} (hd : decode M.2.1 pc = .ok (.i2c, 1)) (hv : (x.toUInt32 % 65536).toInt32 = v) (k : eb_P M d (pc + 1) l (.int v :: st) σ Φ) : eb_P M d pc l (.int x :: st) σ Φ := by
  obtain ⟨r, τ, h7, v7⟩ := k
  exact ⟨r, τ, h7, eb_i2c hd hv v7⟩
theorem ep_iushr {x y v : Int32} (hd : decode M.2.1 pc = .ok (.iushr, 1)) (hv : (x.toUInt32 >>> (y.toUInt32 &&& Int32.toUInt32 31)).toInt32 = v) (k : eb_P M d (pc + 1) l (.int v :: st) σ Φ) : eb_P M d pc l (.int y :: .int x :: st) σ Φ := by
  obtain ⟨r, τ, h7, v7⟩ := k
  exact ⟨r, τ, h7, eb_iushr hd hv v7⟩
theorem ep_lcmp {x y : Int64} (hd : decode M.2.1 pc = .ok (.lcmp, 1)) (k : eb_P M d (pc + 1) l (.int (lg_cmp x y) :: st) σ Φ) : eb_P M d pc l (.long y :: .long x :: st) σ Φ := by
  obtain ⟨r, τ, h7, v7⟩ := k
  exact ⟨r, τ, h7, eb_lcmp hd v7⟩
theorem ep_dup {v : Value} (hd : decode M.2.1 pc = .ok (.dup, 1)) (hv : v.category = 1) (k : eb_P M d (pc + 1) l (v :: v :: st) σ Φ) : eb_P M d pc l (v :: st) σ Φ := by
  obtain ⟨r, τ, h7, v7⟩ := k
  exact ⟨r, τ, h7, eb_dup hd hv v7⟩
theorem ep_pop {v : Value} (hd : decode M.2.1 pc = .ok (.pop, 1)) (hv : v.category = 1) (k : eb_P M d (pc + 1) l st σ Φ) : eb_P M d pc l (v :: st) σ Φ := by
  obtain ⟨r, τ, h7, v7⟩ := k
  exact ⟨r, τ, h7, eb_pop hd hv v7⟩
theorem ep_dup_x1 {v u : Value} (hd : decode M.2.1 pc = .ok (.dup_x1, 1)) (hv : v.category = 1) (hu : u.category = 1) (k : eb_P M d (pc + 1) l (v :: u :: v :: st) σ Φ) : eb_P M d pc l (v :: u :: st) σ Φ := by
  obtain ⟨r, τ, h7, v7⟩ := k
  exact ⟨r, τ, h7, eb_dup_x1 hd hv hu v7⟩
theorem ep_dup2 {v u : Value} (hd : decode M.2.1 pc = .ok (.dup2, 1)) (hv : v.category = 1) (hu : u.category = 1) (k : eb_P M d (pc + 1) l (v :: u :: v :: u :: st) σ Φ) : eb_P M d pc l (v :: u :: st) σ Φ := by
  obtain ⟨r, τ, h7, v7⟩ := k
  exact ⟨r, τ, h7, eb_dup2 hd hv hu v7⟩
theorem ep_goto {off : Int} {tgt : Nat} (hd : decode M.2.1 pc = .ok (.goto off, 3)) (ht : (pc : Int) + off = (tgt : Int)) (k : eb_P M d tgt l st σ Φ) : eb_P M d pc l st σ Φ := by
  obtain ⟨r, τ, h7, v7⟩ := k
  exact ⟨r, τ, h7, eb_goto hd ht v7⟩
theorem ep_iload_n {kk : Fin 4} {i : Nat} {x : Int32} (hd : decode M.2.1 pc = .ok (.iload_n kk, 1)) (hi : (kk : Nat) = i) (hv : eb_lk l i = some (.int x)) (k : eb_P M d (pc + 1) l (.int x :: st) σ Φ) : eb_P M d pc l st σ Φ := by
  obtain ⟨r, τ, h7, v7⟩ := k
  exact ⟨r, τ, h7, eb_iload_n hd hi hv v7⟩
theorem ep_iload {i : Nat} {x : Int32} (hd : decode M.2.1 pc = .ok (.iload i, 2)) (hv : eb_lk l i = some (.int x)) (k : eb_P M d (pc + 2) l (.int x :: st) σ Φ) : eb_P M d pc l st σ Φ := by
  obtain ⟨r, τ, h7, v7⟩ := k
  exact ⟨r, τ, h7, eb_iload hd hv v7⟩
theorem ep_lload_n {kk : Fin 4} {i : Nat} {x : Int64} (hd : decode M.2.1 pc = .ok (.lload_n kk, 1)) (hi : (kk : Nat) = i) (hv : eb_lk l i = some (.long x)) (k : eb_P M d (pc + 1) l (.long x :: st) σ Φ) : eb_P M d pc l st σ Φ := by
  obtain ⟨r, τ, h7, v7⟩ := k
  exact ⟨r, τ, h7, eb_lload_n hd hi hv v7⟩
theorem ep_lload {i : Nat} {x : Int64} (hd : decode M.2.1 pc = .ok (.lload i, 2)) (hv : eb_lk l i = some (.long x)) (k : eb_P M d (pc + 2) l (.long x :: st) σ Φ) : eb_P M d pc l st σ Φ := by
  obtain ⟨r, τ, h7, v7⟩ := k
  exact ⟨r, τ, h7, eb_lload hd hv v7⟩
theorem ep_aload_n {kk : Fin 4} {i : Nat} {x : Nat} (hd : decode M.2.1 pc = .ok (.aload_n kk, 1)) (hi : (kk : Nat) = i) (hv : eb_lk l i = some (.ref x)) (k : eb_P M d (pc + 1) l (.ref x :: st) σ Φ) : eb_P M d pc l st σ Φ := by
  obtain ⟨r, τ, h7, v7⟩ := k
  exact ⟨r, τ, h7, eb_aload_n hd hi hv v7⟩
theorem ep_aload {i : Nat} {x : Nat} (hd : decode M.2.1 pc = .ok (.aload i, 2)) (hv : eb_lk l i = some (.ref x)) (k : eb_P M d (pc + 2) l (.ref x :: st) σ Φ) : eb_P M d pc l st σ Φ := by
  obtain ⟨r, τ, h7, v7⟩ := k
  exact ⟨r, τ, h7, eb_aload hd hv v7⟩
theorem ep_istore_n {kk : Fin 4} {i : Nat} {x : Int32} {l' : List (Nat × Value)} (hd : decode M.2.1 pc = .ok (.istore_n kk, 1)) (hi : (kk : Nat) = i) (hn : i < M.2.2.1) (hl' : (i, Value.int x) :: l.filter (eb_p1 i) = l') (k : eb_P M d (pc + 1) l' st σ Φ) : eb_P M d pc l (.int x :: st) σ Φ := by
  obtain ⟨r, τ, h7, v7⟩ := k
  exact ⟨r, τ, h7, eb_istore_n hd hi hn hl' v7⟩
theorem ep_istore {i : Nat} {x : Int32} {l' : List (Nat × Value)} (hd : decode M.2.1 pc = .ok (.istore i, 2)) (hn : i < M.2.2.1) (hl' : (i, Value.int x) :: l.filter (eb_p1 i) = l') (k : eb_P M d (pc + 2) l' st σ Φ) : eb_P M d pc l (.int x :: st) σ Φ := by
  obtain ⟨r, τ, h7, v7⟩ := k
  exact ⟨r, τ, h7, eb_istore hd hn hl' v7⟩
theorem ep_lstore_n {kk : Fin 4} {i : Nat} {x : Int64} {l' : List (Nat × Value)} (hd : decode M.2.1 pc = .ok (.lstore_n kk, 1)) (hi : (kk : Nat) = i) (hn : i + 1 < M.2.2.1) (hl' : (i, Value.long x) :: l.filter (eb_p2 i) = l') (k : eb_P M d (pc + 1) l' st σ Φ) : eb_P M d pc l (.long x :: st) σ Φ := by
  obtain ⟨r, τ, h7, v7⟩ := k
  exact ⟨r, τ, h7, eb_lstore_n hd hi hn hl' v7⟩
theorem ep_lstore {i : Nat} {x : Int64} {l' : List (Nat × Value)} (hd : decode M.2.1 pc = .ok (.lstore i, 2)) (hn : i + 1 < M.2.2.1) (hl' : (i, Value.long x) :: l.filter (eb_p2 i) = l') (k : eb_P M d (pc + 2) l' st σ Φ) : eb_P M d pc l (.long x :: st) σ Φ := by
  obtain ⟨r, τ, h7, v7⟩ := k
  exact ⟨r, τ, h7, eb_lstore hd hn hl' v7⟩
theorem ep_astore_n {kk : Fin 4} {i : Nat} {x : Nat} {l' : List (Nat × Value)} (hd : decode M.2.1 pc = .ok (.astore_n kk, 1)) (hi : (kk : Nat) = i) (hn : i < M.2.2.1) (hl' : (i, Value.ref x) :: l.filter (eb_p1 i) = l') (k : eb_P M d (pc + 1) l' st σ Φ) : eb_P M d pc l (.ref x :: st) σ Φ := by
  obtain ⟨r, τ, h7, v7⟩ := k
  exact ⟨r, τ, h7, eb_astore_n hd hi hn hl' v7⟩
theorem ep_astore {i : Nat} {x : Nat} {l' : List (Nat × Value)} (hd : decode M.2.1 pc = .ok (.astore i, 2)) (hn : i < M.2.2.1) (hl' : (i, Value.ref x) :: l.filter (eb_p1 i) = l') (k : eb_P M d (pc + 2) l' st σ Φ) : eb_P M d pc l (.ref x :: st) σ Φ := by
  obtain ⟨r, τ, h7, v7⟩ := k
  exact ⟨r, τ, h7, eb_astore hd hn hl' v7⟩
theorem ep_iinc {i : Nat} {n : Int} {x v : Int32} {l' : List (Nat × Value)} (hd : decode M.2.1 pc = .ok (.iinc i n, 3)) (hx0 : eb_lk l i = some (.int x)) (hv : x + Int32.ofInt n = v) (hn : i < M.2.2.1) (hl' : (i, Value.int v) :: l.filter (eb_p1 i) = l') (k : eb_P M d (pc + 3) l' st σ Φ) : eb_P M d pc l st σ Φ := by
  obtain ⟨r, τ, h7, v7⟩ := k
  exact ⟨r, τ, h7, eb_iinc hd hx0 hv hn hl' v7⟩
theorem ep_if_eq {x : Int32} {off : Int} {tgt : Nat} (hd : decode M.2.1 pc = .ok (.ifCond .eq off, 3)) (ht : (pc : Int) + off = (tgt : Int)) (kt : x = 0 → eb_P M d tgt l st σ Φ) (kf : ¬ (x = 0) → eb_P M d (pc + 3) l st σ Φ) : eb_P M d pc l (.int x :: st) σ Φ := by
  by_cases hc : x = 0
  · obtain ⟨r, τ, h, v⟩ := kt hc
    exact ⟨r, τ, h, eb_if_eq hd ht (fun _ => v) (fun h9 => absurd hc h9)⟩
  · obtain ⟨r, τ, h, v⟩ := kf hc
    exact ⟨r, τ, h, eb_if_eq hd ht (fun h9 => absurd h9 hc) (fun _ => v)⟩
theorem ep_icmp_eq {x y : Int32} {off : Int} {tgt : Nat} (hd : decode M.2.1 pc = .ok (.if_icmp .eq off, 3)) (ht : (pc : Int) + off = (tgt : Int)) (kt : x = y → eb_P M d tgt l st σ Φ) (kf : ¬ (x = y) → eb_P M d (pc + 3) l st σ Φ) : eb_P M d pc l (.int y :: .int x :: st) σ Φ := by
  by_cases hc : x = y
  · obtain ⟨r, τ, h, v⟩ := kt hc
    exact ⟨r, τ, h, eb_icmp_eq hd ht (fun _ => v) (fun h9 => absurd hc h9)⟩
  · obtain ⟨r, τ, h, v⟩ := kf hc
    exact ⟨r, τ, h, eb_icmp_eq hd ht (fun h9 => absurd h9 hc) (fun _ => v)⟩
theorem ep_if_ne {x : Int32} {off : Int} {tgt : Nat} (hd : decode M.2.1 pc = .ok (.ifCond .ne off, 3)) (ht : (pc : Int) + off = (tgt : Int)) (kt : x ≠ 0 → eb_P M d tgt l st σ Φ) (kf : ¬ (x ≠ 0) → eb_P M d (pc + 3) l st σ Φ) : eb_P M d pc l (.int x :: st) σ Φ := by
  by_cases hc : x ≠ 0
  · obtain ⟨r, τ, h, v⟩ := kt hc
    exact ⟨r, τ, h, eb_if_ne hd ht (fun _ => v) (fun h9 => absurd hc h9)⟩
  · obtain ⟨r, τ, h, v⟩ := kf hc
    exact ⟨r, τ, h, eb_if_ne hd ht (fun h9 => absurd h9 hc) (fun _ => v)⟩
theorem ep_icmp_ne {x y : Int32} {off : Int} {tgt : Nat} (hd : decode M.2.1 pc = .ok (.if_icmp .ne off, 3)) (ht : (pc : Int) + off = (tgt : Int)) (kt : x ≠ y → eb_P M d tgt l st σ Φ) (kf : ¬ (x ≠ y) → eb_P M d (pc + 3) l st σ Φ) : eb_P M d pc l (.int y :: .int x :: st) σ Φ := by
  by_cases hc : x ≠ y
  · obtain ⟨r, τ, h, v⟩ := kt hc
    exact ⟨r, τ, h, eb_icmp_ne hd ht (fun _ => v) (fun h9 => absurd hc h9)⟩
  · obtain ⟨r, τ, h, v⟩ := kf hc
    exact ⟨r, τ, h, eb_icmp_ne hd ht (fun h9 => absurd h9 hc) (fun _ => v)⟩
theorem ep_if_lt {x : Int32} {off : Int} {tgt : Nat} (hd : decode M.2.1 pc = .ok (.ifCond .lt off, 3)) (ht : (pc : Int) + off = (tgt : Int)) (kt : x < 0 → eb_P M d tgt l st σ Φ) (kf : ¬ (x < 0) → eb_P M d (pc + 3) l st σ Φ) : eb_P M d pc l (.int x :: st) σ Φ := by
  by_cases hc : x < 0
  · obtain ⟨r, τ, h, v⟩ := kt hc
    exact ⟨r, τ, h, eb_if_lt hd ht (fun _ => v) (fun h9 => absurd hc h9)⟩
  · obtain ⟨r, τ, h, v⟩ := kf hc
    exact ⟨r, τ, h, eb_if_lt hd ht (fun h9 => absurd h9 hc) (fun _ => v)⟩
theorem ep_icmp_lt {x y : Int32} {off : Int} {tgt : Nat} (hd : decode M.2.1 pc = .ok (.if_icmp .lt off, 3)) (ht : (pc : Int) + off = (tgt : Int)) (kt : x < y → eb_P M d tgt l st σ Φ) (kf : ¬ (x < y) → eb_P M d (pc + 3) l st σ Φ) : eb_P M d pc l (.int y :: .int x :: st) σ Φ := by
  by_cases hc : x < y
  · obtain ⟨r, τ, h, v⟩ := kt hc
    exact ⟨r, τ, h, eb_icmp_lt hd ht (fun _ => v) (fun h9 => absurd hc h9)⟩
  · obtain ⟨r, τ, h, v⟩ := kf hc
    exact ⟨r, τ, h, eb_icmp_lt hd ht (fun h9 => absurd h9 hc) (fun _ => v)⟩
theorem ep_if_ge {x : Int32} {off : Int} {tgt : Nat} (hd : decode M.2.1 pc = .ok (.ifCond .ge off, 3)) (ht : (pc : Int) + off = (tgt : Int)) (kt : 0 ≤ x → eb_P M d tgt l st σ Φ) (kf : ¬ (0 ≤ x) → eb_P M d (pc + 3) l st σ Φ) : eb_P M d pc l (.int x :: st) σ Φ := by
  by_cases hc : 0 ≤ x
  · obtain ⟨r, τ, h, v⟩ := kt hc
    exact ⟨r, τ, h, eb_if_ge hd ht (fun _ => v) (fun h9 => absurd hc h9)⟩
  · obtain ⟨r, τ, h, v⟩ := kf hc
    exact ⟨r, τ, h, eb_if_ge hd ht (fun h9 => absurd h9 hc) (fun _ => v)⟩
theorem ep_icmp_ge {x y : Int32} {off : Int} {tgt : Nat} (hd : decode M.2.1 pc = .ok (.if_icmp .ge off, 3)) (ht : (pc : Int) + off = (tgt : Int)) (kt : y ≤ x → eb_P M d tgt l st σ Φ) (kf : ¬ (y ≤ x) → eb_P M d (pc + 3) l st σ Φ) : eb_P M d pc l (.int y :: .int x :: st) σ Φ := by
  by_cases hc : y ≤ x
  · obtain ⟨r, τ, h, v⟩ := kt hc
    exact ⟨r, τ, h, eb_icmp_ge hd ht (fun _ => v) (fun h9 => absurd hc h9)⟩
  · obtain ⟨r, τ, h, v⟩ := kf hc
    exact ⟨r, τ, h, eb_icmp_ge hd ht (fun h9 => absurd h9 hc) (fun _ => v)⟩
theorem ep_if_gt {x : Int32} {off : Int} {tgt : Nat} (hd : decode M.2.1 pc = .ok (.ifCond .gt off, 3)) (ht : (pc : Int) + off = (tgt : Int)) (kt : 0 < x → eb_P M d tgt l st σ Φ) (kf : ¬ (0 < x) → eb_P M d (pc + 3) l st σ Φ) : eb_P M d pc l (.int x :: st) σ Φ := by
  by_cases hc : 0 < x
  · obtain ⟨r, τ, h, v⟩ := kt hc
    exact ⟨r, τ, h, eb_if_gt hd ht (fun _ => v) (fun h9 => absurd hc h9)⟩
  · obtain ⟨r, τ, h, v⟩ := kf hc
    exact ⟨r, τ, h, eb_if_gt hd ht (fun h9 => absurd h9 hc) (fun _ => v)⟩
theorem ep_icmp_gt {x y : Int32} {off : Int} {tgt : Nat} (hd : decode M.2.1 pc = .ok (.if_icmp .gt off, 3)) (ht : (pc : Int) + off = (tgt : Int)) (kt : y < x → eb_P M d tgt l st σ Φ) (kf : ¬ (y < x) → eb_P M d (pc + 3) l st σ Φ) : eb_P M d pc l (.int y :: .int x :: st) σ Φ := by
  by_cases hc : y < x
  · obtain ⟨r, τ, h, v⟩ := kt hc
    exact ⟨r, τ, h, eb_icmp_gt hd ht (fun _ => v) (fun h9 => absurd hc h9)⟩
  · obtain ⟨r, τ, h, v⟩ := kf hc
    exact ⟨r, τ, h, eb_icmp_gt hd ht (fun h9 => absurd h9 hc) (fun _ => v)⟩
theorem ep_if_le {x : Int32} {off : Int} {tgt : Nat} (hd : decode M.2.1 pc = .ok (.ifCond .le off, 3)) (ht : (pc : Int) + off = (tgt : Int)) (kt : x ≤ 0 → eb_P M d tgt l st σ Φ) (kf : ¬ (x ≤ 0) → eb_P M d (pc + 3) l st σ Φ) : eb_P M d pc l (.int x :: st) σ Φ := by
  by_cases hc : x ≤ 0
  · obtain ⟨r, τ, h, v⟩ := kt hc
    exact ⟨r, τ, h, eb_if_le hd ht (fun _ => v) (fun h9 => absurd hc h9)⟩
  · obtain ⟨r, τ, h, v⟩ := kf hc
    exact ⟨r, τ, h, eb_if_le hd ht (fun h9 => absurd h9 hc) (fun _ => v)⟩
theorem ep_icmp_le {x y : Int32} {off : Int} {tgt : Nat} (hd : decode M.2.1 pc = .ok (.if_icmp .le off, 3)) (ht : (pc : Int) + off = (tgt : Int)) (kt : x ≤ y → eb_P M d tgt l st σ Φ) (kf : ¬ (x ≤ y) → eb_P M d (pc + 3) l st σ Φ) : eb_P M d pc l (.int y :: .int x :: st) σ Φ := by
  by_cases hc : x ≤ y
  · obtain ⟨r, τ, h, v⟩ := kt hc
    exact ⟨r, τ, h, eb_icmp_le hd ht (fun _ => v) (fun h9 => absurd hc h9)⟩
  · obtain ⟨r, τ, h, v⟩ := kf hc
    exact ⟨r, τ, h, eb_icmp_le hd ht (fun h9 => absurd h9 hc) (fun _ => v)⟩
theorem ep_tin {dflt lo hi : Int} {offs : Array Int} {len : Nat} {x : Int32} {off : Int} {tgt : Nat} (hd : decode M.2.1 pc = .ok (.tableswitch dflt lo hi offs, len)) (h1 : ¬ x.toInt < lo) (h2 : ¬ hi < x.toInt) (ho : offs[(x.toInt - lo).toNat]? = some off) (ht : (pc : Int) + off = (tgt : Int)) (k : eb_P M d tgt l st σ Φ) : eb_P M d pc l (.int x :: st) σ Φ := by
  obtain ⟨r, τ, h7, v7⟩ := k
  exact ⟨r, τ, h7, eb_tin hd h1 h2 ho ht v7⟩
theorem ep_tout {dflt lo hi : Int} {offs : Array Int} {len : Nat} {x : Int32} {tgt : Nat} (hd : decode M.2.1 pc = .ok (.tableswitch dflt lo hi offs, len)) (h : x.toInt < lo ∨ hi < x.toInt) (ht : (pc : Int) + dflt = (tgt : Int)) (k : eb_P M d tgt l st σ Φ) : eb_P M d pc l (.int x :: st) σ Φ := by
  obtain ⟨r, τ, h7, v7⟩ := k
  exact ⟨r, τ, h7, eb_tout hd h ht v7⟩
theorem ep_lookup {dflt : Int} {ps : Array (Int × Int)} {len : Nat} {x : Int32} {off : Int} {tgt : Nat} (hd : decode M.2.1 pc = .ok (.lookupswitch dflt ps, len)) (hp : (ps.toList.zip (ps.toList.drop 1)).all (fun (a, next) => a.1 < next.1) = true) (ho : Op.lookupswitch.offset ps.toList dflt x.toInt = off) (ht : (pc : Int) + off = (tgt : Int)) (k : eb_P M d tgt l st σ Φ) : eb_P M d pc l (.int x :: st) σ Φ := by
  obtain ⟨r, τ, h7, v7⟩ := k
  exact ⟨r, τ, h7, eb_lookup hd hp ho ht v7⟩
theorem ep_ldc {index : Nat} {v : Int32} (hd : decode M.2.1 pc = .ok (.ldc index, 2)) (hw : Jvm.Cond.constant M.1.cls index v ∈ eb_tbl) (k : eb_P M d (pc + 2) l (.int v :: st) σ Φ) : eb_P M d pc l st σ Φ := by
  obtain ⟨r, τ, h7, v7⟩ := k
  exact ⟨r, τ, h7, eb_ldc hd hw v7⟩
theorem ep_ldcw {index : Nat} {v : Int32} (hd : decode M.2.1 pc = .ok (.ldc_w index, 3)) (hw : Jvm.Cond.constant M.1.cls index v ∈ eb_tbl) (k : eb_P M d (pc + 3) l (.int v :: st) σ Φ) : eb_P M d pc l st σ Φ := by
  obtain ⟨r, τ, h7, v7⟩ := k
  exact ⟨r, τ, h7, eb_ldcw hd hw v7⟩
theorem ep_ldc2 {index : Nat} {v : Int64} (hd : decode M.2.1 pc = .ok (.ldc2_w index, 3)) (hw : Jvm.Cond.constantLong M.1.cls index v ∈ eb_tbl) (k : eb_P M d (pc + 3) l (.long v :: st) σ Φ) : eb_P M d pc l st σ Φ := by
  obtain ⟨r, τ, h7, v7⟩ := k
  exact ⟨r, τ, h7, eb_ldc2 hd hw v7⟩
theorem ep_iret {x : Int32} {ty : FieldType} (hd : decode M.2.1 pc = .ok (.ireturn, 1)) (ht : M.2.2.2 = some ty) (hn : narrow ty (.int x) = .int x) (hΦ : Φ (some (.int x)) σ) : eb_P M d pc l [.int x] σ Φ := ⟨_, _, hΦ, eb_iret hd ht hn⟩
theorem ep_lret {x : Int64} (hd : decode M.2.1 pc = .ok (.lreturn, 1)) (ht : M.2.2.2 = some .long) (hΦ : Φ (some (.long x)) σ) : eb_P M d pc l [.long x] σ Φ := ⟨_, _, hΦ, eb_lret hd ht⟩
theorem ep_aret {x : Nat} {ty : FieldType} (hd : decode M.2.1 pc = .ok (.areturn, 1)) (ht : M.2.2.2 = some ty) (hn : (∃ n, ty = .object n) ∨ ∃ t, ty = .array t) (hΦ : Φ (some (.ref x)) σ) : eb_P M d pc l [.ref x] σ Φ := ⟨_, _, hΦ, eb_aret hd ht hn⟩
theorem ep_vret (hd : decode M.2.1 pc = .ok (.return_, 1)) (ht : M.2.2.2 = none) (hΦ : Φ none σ) : eb_P M d pc l [] σ Φ := ⟨_, _, hΦ, eb_vret hd ht⟩
theorem ep_getI {i c k idx : Nat} (hd : decode M.2.1 pc = .ok (.getfield idx, 3)) (hF : eb_FL M.1.cls idx c k 0) (hi : i < n) (hk : (kd i).1 = c) (kk : eb_P M d (pc + 3) l (.int (I i k) :: st) (n, sl, kd, I, L, Rf) Φ) : eb_P M d pc l (.ref i :: st) (n, sl, kd, I, L, Rf) Φ := by
  obtain ⟨r, τ, h7, v7⟩ := kk
  exact ⟨r, τ, h7, eb_getI hd hF hi hk v7⟩
theorem ep_getR {i c k idx j : Nat} (hd : decode M.2.1 pc = .ok (.getfield idx, 3)) (hF : eb_FL M.1.cls idx c k 2) (hi : i < n) (hk : (kd i).1 = c) (hr : Rf i k = some j) (kk : eb_P M d (pc + 3) l (.ref j :: st) (n, sl, kd, I, L, Rf) Φ) : eb_P M d pc l (.ref i :: st) (n, sl, kd, I, L, Rf) Φ := by
  obtain ⟨r, τ, h7, v7⟩ := kk
  exact ⟨r, τ, h7, eb_getR hd hF hi hk hr v7⟩
theorem ep_putI {i c k idx : Nat} {x : Int32} (hd : decode M.2.1 pc = .ok (.putfield idx, 3)) (hF : eb_PL M.1.cls idx c k 0 false) (hi : i < n) (hX : i < 1000000) (hk : (kd i).1 = c) (hn : narrow (eb_ty c k) (.int x) = .int x) (hf : fits (eb_ty c k) (.int x) = true) (kk : eb_P M d (pc + 3) l st (n, sl, kd, va_up I i (upd (I i) k x), L, Rf) Φ) : eb_P M d pc l (.int x :: .ref i :: st) (n, sl, kd, I, L, Rf) Φ := by
  obtain ⟨r, τ, h7, v7⟩ := kk
  exact ⟨r, τ, h7, eb_putI hd hF hi hX hk hn hf v7⟩
theorem ep_putR {i c k idx j : Nat} {fin : Bool} (hd : decode M.2.1 pc = .ok (.putfield idx, 3)) (hF : eb_PL M.1.cls idx c k 2 fin) (hfi : fin = true → M.1.name = "<init>") (hi : i < n) (hk : (kd i).1 = c) (hj : j < n ∨ 1000000 ≤ j) (kk : eb_P M d (pc + 3) l st (n, sl, kd, I, L, va_up Rf i (va_up (Rf i) k (some j))) Φ) : eb_P M d pc l (.ref j :: .ref i :: st) (n, sl, kd, I, L, Rf) Φ := by
  obtain ⟨r, τ, h7, v7⟩ := kk
  exact ⟨r, τ, h7, eb_putR hd hF hfi hi hk hj v7⟩
theorem ep_iald {i len : Nat} {x : Int32} (hd : decode M.2.1 pc = .ok (.iaload, 1)) (hi : i < n) (hk : kd i = (20, len)) (hin : vp_in x len) (kk : eb_P M d (pc + 1) l (.int (I i x.toNatClampNeg) :: st) (n, sl, kd, I, L, Rf) Φ) : eb_P M d pc l (.int x :: .ref i :: st) (n, sl, kd, I, L, Rf) Φ := by
  obtain ⟨r, τ, h7, v7⟩ := kk
  exact ⟨r, τ, h7, eb_iald hd hi hk hin v7⟩
theorem ep_bald {i len : Nat} {x : Int32} (hd : decode M.2.1 pc = .ok (.baload, 1)) (hi : i < n) (hk : kd i = (21, len)) (hin : vp_in x len) (kk : eb_P M d (pc + 1) l (.int (I i x.toNatClampNeg) :: st) (n, sl, kd, I, L, Rf) Φ) : eb_P M d pc l (.int x :: .ref i :: st) (n, sl, kd, I, L, Rf) Φ := by
  obtain ⟨r, τ, h7, v7⟩ := kk
  exact ⟨r, τ, h7, eb_bald hd hi hk hin v7⟩
theorem ep_zald {i len : Nat} {x : Int32} (hd : decode M.2.1 pc = .ok (.baload, 1)) (hi : i < n) (hk : kd i = (22, len)) (hin : vp_in x len) (kk : eb_P M d (pc + 1) l (.int (I i x.toNatClampNeg) :: st) (n, sl, kd, I, L, Rf) Φ) : eb_P M d pc l (.int x :: .ref i :: st) (n, sl, kd, I, L, Rf) Φ := by
  obtain ⟨r, τ, h7, v7⟩ := kk
  exact ⟨r, τ, h7, eb_zald hd hi hk hin v7⟩
theorem ep_lald {i len : Nat} {x : Int32} (hd : decode M.2.1 pc = .ok (.laload, 1)) (hi : i < n) (hk : kd i = (23, len)) (hin : vp_in x len) (kk : eb_P M d (pc + 1) l (.long (L i x.toNatClampNeg) :: st) (n, sl, kd, I, L, Rf) Φ) : eb_P M d pc l (.int x :: .ref i :: st) (n, sl, kd, I, L, Rf) Φ := by
  obtain ⟨r, τ, h7, v7⟩ := kk
  exact ⟨r, τ, h7, eb_lald hd hi hk hin v7⟩
theorem ep_aald {i len j : Nat} {x : Int32} (hd : decode M.2.1 pc = .ok (.aaload, 1)) (hi : i < n) (hk : kd i = (24, len)) (hin : vp_in x len) (hr : Rf i x.toNatClampNeg = some j) (kk : eb_P M d (pc + 1) l (.ref j :: st) (n, sl, kd, I, L, Rf) Φ) : eb_P M d pc l (.int x :: .ref i :: st) (n, sl, kd, I, L, Rf) Φ := by
  obtain ⟨r, τ, h7, v7⟩ := kk
  exact ⟨r, τ, h7, eb_aald hd hi hk hin hr v7⟩
theorem ep_alen {i c len : Nat} {v : Int32} (hd : decode M.2.1 pc = .ok (.arraylength, 1)) (hi : i < n) (hk : kd i = (c, len)) (hc : 20 ≤ c ∧ c ≤ 24) (hv : Int32.ofNat len = v) (kk : eb_P M d (pc + 1) l (.int v :: st) (n, sl, kd, I, L, Rf) Φ) : eb_P M d pc l (.ref i :: st) (n, sl, kd, I, L, Rf) Φ := by
  obtain ⟨r, τ, h7, v7⟩ := kk
  exact ⟨r, τ, h7, eb_alen hd hi hk hc hv v7⟩
theorem ep_iast {i len : Nat} {j x : Int32} (hd : decode M.2.1 pc = .ok (.iastore, 1)) (hi : i < n) (hX : i < 1000000) (hk : kd i = (20, len)) (hin : vp_in j len) (kk : eb_P M d (pc + 1) l st (n, sl, kd, va_up I i (upd (I i) j.toNatClampNeg x), L, Rf) Φ) : eb_P M d pc l (.int x :: .int j :: .ref i :: st) (n, sl, kd, I, L, Rf) Φ := by
  obtain ⟨r, τ, h7, v7⟩ := kk
  exact ⟨r, τ, h7, eb_iast hd hi hX hk hin v7⟩
theorem ep_bast {i len : Nat} {j x : Int32} (hd : decode M.2.1 pc = .ok (.bastore, 1)) (hi : i < n) (hX : i < 1000000) (hk : kd i = (21, len)) (hin : vp_in j len) (kk : eb_P M d (pc + 1) l st (n, sl, kd, va_up I i (upd (I i) j.toNatClampNeg (vp_nar .byte x)), L, Rf) Φ) : eb_P M d pc l (.int x :: .int j :: .ref i :: st) (n, sl, kd, I, L, Rf) Φ := by
  obtain ⟨r, τ, h7, v7⟩ := kk
  exact ⟨r, τ, h7, eb_bast hd hi hX hk hin v7⟩
theorem ep_zast {i len : Nat} {j x : Int32} (hd : decode M.2.1 pc = .ok (.bastore, 1)) (hi : i < n) (hX : i < 1000000) (hk : kd i = (22, len)) (hin : vp_in j len) (kk : eb_P M d (pc + 1) l st (n, sl, kd, va_up I i (upd (I i) j.toNatClampNeg (vp_nar .boolean x)), L, Rf) Φ) : eb_P M d pc l (.int x :: .int j :: .ref i :: st) (n, sl, kd, I, L, Rf) Φ := by
  obtain ⟨r, τ, h7, v7⟩ := kk
  exact ⟨r, τ, h7, eb_zast hd hi hX hk hin v7⟩
theorem ep_last {i len : Nat} {j : Int32} {x : Int64} (hd : decode M.2.1 pc = .ok (.lastore, 1)) (hi : i < n) (hk : kd i = (23, len)) (hin : vp_in j len) (kk : eb_P M d (pc + 1) l st (n, sl, kd, I, va_up L i (vp_updL (L i) j.toNatClampNeg x), Rf) Φ) : eb_P M d pc l (.long x :: .int j :: .ref i :: st) (n, sl, kd, I, L, Rf) Φ := by
  obtain ⟨r, τ, h7, v7⟩ := kk
  exact ⟨r, τ, h7, eb_last hd hi hk hin v7⟩
theorem ep_aast {i len v : Nat} {j : Int32} (hd : decode M.2.1 pc = .ok (.aastore, 1)) (hi : i < n) (hk : kd i = (24, len)) (hv : v < n) (hkv : (kd v).1 = 7) (hin : vp_in j len) (kk : eb_P M d (pc + 1) l st (n, sl, kd, I, L, va_up Rf i (va_up (Rf i) j.toNatClampNeg (some v))) Φ) : eb_P M d pc l (.ref v :: .int j :: .ref i :: st) (n, sl, kd, I, L, Rf) Φ := by
  obtain ⟨r, τ, h7, v7⟩ := kk
  exact ⟨r, τ, h7, eb_aast hd hi hk hv hkv hin v7⟩
theorem ep_objI {idx i : Nat} (hd : decode M.2.1 pc = .ok (.invokespecial idx, 3)) (hL : Cond.methodLink M.1.cls idx Lib.objectInit ∈ eb_tbl) (hrest : (rest.map fun v => v.category).sum ≤ 8) (kk : eb_P M (d + 1) (pc + 3) l rest σ Φ) : eb_P M (d + 1) pc l (.ref i :: rest) σ Φ := by
  obtain ⟨r, τ, h7, v7⟩ := kk
  exact ⟨r, τ, h7, eb_objI hd hL hrest v7⟩
theorem ep_newa {at0 : ArrayType} {ty : FieldType} {x : Int32} {N t : Nat} (hd : decode M.2.1 pc = .ok (.newarray at0, 2)) (hty : newarray.typeOf at0 = ty) (hw : Cond.arrayClass ty ∈ eb_tbl) (hT : (t = 0 ∧ ty = .int) ∨ (t = 1 ∧ ty = .byte) ∨ (t = 2 ∧ ty = .boolean) ∨ (t = 3 ∧ ty = .long)) (hx : ¬ x < 0) (hN : x.toNatClampNeg = N) (hb : N * componentBytes ty ≤ 536870912) (hX : n < 1000000) (hok : (∀ q ∈ l, eb_okv n q.2) ∧ ∀ v ∈ st, eb_okv n v) (kk : eb_P M d (pc + 2) l (.ref n :: st) (n + 1, (sl.1 + 1, sl.2 + N), va_up kd n (20 + t, N), va_up I n (fun _ => 0), va_up L n (fun _ => 0), va_up Rf n (fun _ => none)) Φ) : eb_P M d pc l (.int x :: st) (n, sl, kd, I, L, Rf) Φ := by
  obtain ⟨r, τ, h7, v7⟩ := kk
  exact ⟨r, τ, h7, eb_newa hd hty hw hT hx hN hb hX hok v7⟩
theorem ep_newq {idx : Nat} {x : Int32} {N : Nat} (hd : decode M.2.1 pc = .ok (.anewarray idx, 3)) (hw : Cond.classLink M.1.cls idx RX7 ∈ eb_tbl) (hx : ¬ x < 0) (hN : x.toNatClampNeg = N) (hb : N * 4 ≤ 536870912) (hX : n < 1000000) (hok : (∀ q ∈ l, eb_okv n q.2) ∧ ∀ v ∈ st, eb_okv n v) (kk : eb_P M d (pc + 3) l (.ref n :: st) (n + 1, (sl.1 + 1, sl.2 + N), va_up kd n (24, N), va_up I n (fun _ => 0), va_up L n (fun _ => 0), va_up Rf n (fun _ => none)) Φ) : eb_P M d pc l (.int x :: st) (n, sl, kd, I, L, Rf) Φ := by
  obtain ⟨r, τ, h7, v7⟩ := kk
  exact ⟨r, τ, h7, eb_newq hd hw hx hN hb hX hok v7⟩
theorem ep_new {idx c : Nat} {N : Nat} (hd : decode M.2.1 pc = .ok (.new idx, 3)) (hF : eb_NL M.1.cls idx c) (hN : eb_nf c = N) (hX : n < 1000000) (hok : (∀ q ∈ l, eb_okv n q.2) ∧ ∀ v ∈ st, eb_okv n v) (kk : eb_P M d (pc + 3) l (.ref n :: st) (n + 1, (sl.1 + 1, sl.2 + N), va_up kd n (c, 0), va_up I n (fun _ => 0), va_up L n (fun _ => 0), va_up Rf n (fun _ => none)) Φ) : eb_P M d pc l st (n, sl, kd, I, L, Rf) Φ := by
  obtain ⟨r, τ, h7, v7⟩ := kk
  exact ⟨r, τ, h7, eb_new hd hF hN hX hok v7⟩
theorem ep_ldcS {idx i : Nat} {tx : String} (hd : decode M.2.1 pc = .ok (.ldc idx, 2)) (hq : (M.1.cls, idx, tx, i) ∈ eb_strs) (kk : eb_P M d (pc + 2) l (.ref (1000000 + i) :: st) σ Φ) : eb_P M d pc l st σ Φ := by
  obtain ⟨r, τ, h7, v7⟩ := kk
  exact ⟨r, τ, h7, eb_ldcS hd hq v7⟩
theorem ep_heard {idx : Nat} (hd : decode M.2.1 pc = .ok (.getstatic idx, 3)) (hL : Cond.fieldLink M.1.cls idx "ElderBallast" "HEARD_MOST" "[I" ∈ eb_tbl) (kk : eb_P M d (pc + 3) l (.ref 1000050 :: st) σ Φ) : eb_P M d pc l st σ Φ := by
  obtain ⟨r, τ, h7, v7⟩ := kk
  exact ⟨r, τ, h7, eb_heard hd hL v7⟩
theorem ep_compact {idx : Nat} (hd : decode M.2.1 pc = .ok (.getstatic idx, 3)) (hL : Cond.fieldLink M.1.cls idx "java/lang/String" "COMPACT_STRINGS" "Z" ∈ eb_tbl) (kk : eb_P M d (pc + 3) l (.int 1 :: st) σ Φ) : eb_P M d pc l st σ Φ := by
  obtain ⟨r, τ, h7, v7⟩ := kk
  exact ⟨r, τ, h7, eb_compact hd hL v7⟩
theorem ep_xi {j len : Nat} {x : Int32} (hd : decode M.2.1 pc = .ok (.iaload, 1)) (hj : j = 1000050 ∨ j = 1000060) (hl : (σ.2.2.1 j).2 = len) (hin : vp_in x len) (kk : eb_P M d (pc + 1) l (.int (σ.2.2.2.1 j x.toNatClampNeg) :: st) σ Φ) : eb_P M d pc l (.int x :: .ref j :: st) σ Φ := by
  obtain ⟨r, τ, h7, v7⟩ := kk
  exact ⟨r, τ, h7, eb_xi hd hj hl hin v7⟩
theorem ep_xlen {j : Nat} {v : Int32} (hd : decode M.2.1 pc = .ok (.arraylength, 1)) (hj : j = 1000050 ∨ j = 1000060) (hv : Int32.ofNat (σ.2.2.1 j).2 = v) (kk : eb_P M d (pc + 1) l (.int v :: st) σ Φ) : eb_P M d pc l (.ref j :: st) σ Φ := by
  obtain ⟨r, τ, h7, v7⟩ := kk
  exact ⟨r, τ, h7, eb_xlen hd hj hv v7⟩
theorem ep_svalue {idx i : Nat} (hd : decode M.2.1 pc = .ok (.getfield idx, 3)) (hL : Cond.fieldLink M.1.cls idx "java/lang/String" "value" "[B" ∈ eb_tbl) (hi : i < 11) (kk : eb_P M d (pc + 3) l (.ref (1000020 + i) :: st) σ Φ) : eb_P M d pc l (.ref (1000000 + i) :: st) σ Φ := by
  obtain ⟨r, τ, h7, v7⟩ := kk
  exact ⟨r, τ, h7, eb_svalue hd hL hi v7⟩
theorem ep_scoder {idx i : Nat} (hd : decode M.2.1 pc = .ok (.getfield idx, 3)) (hL : Cond.fieldLink M.1.cls idx "java/lang/String" "coder" "B" ∈ eb_tbl) (hi : i < 11) (kk : eb_P M d (pc + 3) l (.int 0 :: st) σ Φ) : eb_P M d pc l (.ref (1000000 + i) :: st) σ Φ := by
  obtain ⟨r, τ, h7, v7⟩ := kk
  exact ⟨r, τ, h7, eb_scoder hd hL hi v7⟩
theorem ep_sbyte {i : Nat} {x v : Int32} (hd : decode M.2.1 pc = .ok (.baload, 1)) (hi : i < 11) (hin : vp_in x (eb_len.getD i 0)) (hv : (eb_byt.getD i []).getD x.toNatClampNeg 0 = v) (kk : eb_P M d (pc + 1) l (.int v :: st) σ Φ) : eb_P M d pc l (.int x :: .ref (1000020 + i) :: st) σ Φ := by
  obtain ⟨r, τ, h7, v7⟩ := kk
  exact ⟨r, τ, h7, eb_sbyte hd hi hin hv v7⟩
theorem ep_slen {i : Nat} {v : Int32} (hd : decode M.2.1 pc = .ok (.arraylength, 1)) (hi : i < 11) (hv : Int32.ofNat (eb_len.getD i 0) = v) (kk : eb_P M d (pc + 1) l (.int v :: st) σ Φ) : eb_P M d pc l (.ref (1000020 + i) :: st) σ Φ := by
  obtain ⟨r, τ, h7, v7⟩ := kk
  exact ⟨r, τ, h7, eb_slen hd hi hv v7⟩
theorem ep_max {idx : Nat} {x y : Int32} (hd : decode M.2.1 pc = .ok (.invokestatic idx, 3)) (hL : Cond.methodLink M.1.cls idx Lib.Math.max.name ∈ eb_tbl) (hrest : (st.map fun v => v.category).sum ≤ 8) (kk : eb_P M (d + 1) (pc + 3) l (.int (if x < y then y else x) :: st) σ Φ) : eb_P M (d + 1) pc l (.int y :: .int x :: st) σ Φ := by
  obtain ⟨r, τ, h7, v7⟩ := kk
  exact ⟨r, τ, h7, eb_max hd hL hrest v7⟩
theorem ep_min {idx : Nat} {x y : Int32} (hd : decode M.2.1 pc = .ok (.invokestatic idx, 3)) (hL : Cond.methodLink M.1.cls idx Lib.Math.min.name ∈ eb_tbl) (hrest : (st.map fun v => v.category).sum ≤ 8) (kk : eb_P M (d + 1) (pc + 3) l (.int (if y < x then y else x) :: st) σ Φ) : eb_P M (d + 1) pc l (.int y :: .int x :: st) σ Φ := by
  obtain ⟨r, τ, h7, v7⟩ := kk
  exact ⟨r, τ, h7, eb_min hd hL hrest v7⟩
theorem ep_abs {idx : Nat} {x : Int32} (hd : decode M.2.1 pc = .ok (.invokestatic idx, 3)) (hL : Cond.methodLink M.1.cls idx Lib.Math.abs.name ∈ eb_tbl) (hrest : (st.map fun v => v.category).sum ≤ 8) (kk : eb_P M (d + 1) (pc + 3) l (.int (if 0 ≤ x then x else 0 - x) :: st) σ Φ) : eb_P M (d + 1) pc l (.int x :: st) σ Φ := by
  obtain ⟨r, τ, h7, v7⟩ := kk
  exact ⟨r, τ, h7, eb_abs hd hL hrest v7⟩
theorem ep_callV {idx nn c i : Nat} (hd : decode M.2.1 pc = .ok (.invokevirtual idx, 3)) (hL : eb_ML M.1.cls idx M1.1) (hM : eb_MV M1 nn c) (hn : as.length = nn) (hi : i < σ.1) (hk : (σ.2.2.1 i).1 = c) (hrest : (rest.map fun v => v.category).sum ≤ 8) (hst : as.reverse ++ .ref i :: rest = st) (hE : eb_Q M1 d (.ref i :: as) σ Ψ) (hok : ∀ r1 σ1, Ψ r1 σ1 → σ1.1 = σ.1 ∨ ((∀ q ∈ l, eb_okv σ.1 q.2) ∧ ∀ v ∈ rest, eb_okv σ.1 v)) (kk : ∀ r1 σ1, Ψ r1 σ1 → eb_P M (d + 1) (pc + 3) l (r1.toList ++ rest) σ1 Φ) : eb_P M (d + 1) pc l st σ Φ := by
  obtain ⟨r1, σ1, h1, hE⟩ := hE
  obtain ⟨r, τ, h, v⟩ := kk r1 σ1 h1
  exact ⟨r, τ, h, eb_callV hE hd hL hM hn hi hk hrest hst (hok r1 σ1 h1) v⟩
theorem ep_callS {idx nn : Nat} (hd : decode M.2.1 pc = .ok (.invokestatic idx, 3)) (hL : eb_ML M.1.cls idx M1.1) (hM : eb_MS M1 nn) (hn : as.length = nn) (hrest : (rest.map fun v => v.category).sum ≤ 8) (hst : as.reverse ++ rest = st) (hE : eb_Q M1 d (as) σ Ψ) (hok : ∀ r1 σ1, Ψ r1 σ1 → σ1.1 = σ.1 ∨ ((∀ q ∈ l, eb_okv σ.1 q.2) ∧ ∀ v ∈ rest, eb_okv σ.1 v)) (kk : ∀ r1 σ1, Ψ r1 σ1 → eb_P M (d + 1) (pc + 3) l (r1.toList ++ rest) σ1 Φ) : eb_P M (d + 1) pc l st σ Φ := by
  obtain ⟨r1, σ1, h1, hE⟩ := hE
  obtain ⟨r, τ, h, v⟩ := kk r1 σ1 h1
  exact ⟨r, τ, h, eb_callS hE hd hL hM hn hrest hst (hok r1 σ1 h1) v⟩
theorem ep_callI {idx nn i : Nat} (hd : decode M.2.1 pc = .ok (.invokespecial idx, 3)) (hL : eb_ML M.1.cls idx M1.1) (hM : eb_MI M1 nn) (hn : as.length = nn) (hrest : (rest.map fun v => v.category).sum ≤ 8) (hst : as.reverse ++ .ref i :: rest = st) (hE : eb_Q M1 d (.ref i :: as) σ Ψ) (hok : ∀ r1 σ1, Ψ r1 σ1 → σ1.1 = σ.1 ∨ ((∀ q ∈ l, eb_okv σ.1 q.2) ∧ ∀ v ∈ rest, eb_okv σ.1 v)) (kk : ∀ r1 σ1, Ψ r1 σ1 → eb_P M (d + 1) (pc + 3) l (r1.toList ++ rest) σ1 Φ) : eb_P M (d + 1) pc l st σ Φ := by
  obtain ⟨r1, σ1, h1, hE⟩ := hE
  obtain ⟨r, τ, h, v⟩ := kk r1 σ1 h1
  exact ⟨r, τ, h, eb_callI hE hd hL hM hn hrest hst (hok r1 σ1 h1) v⟩
theorem ep_callT {idx nn i : Nat} (hi : i < 11) (hcl : M1.1.cls = "java/lang/String") (hd : decode M.2.1 pc = .ok (.invokevirtual idx, 3)) (hL : Cond.methodLink M.1.cls idx M1.1 ∈ eb_tbl) (hM : eb_MC M1 nn) (hI : Cond.instanceMethod M1.1 ∈ eb_tbl ∧ Cond.selects M1.1.cls M1.1 M1.1 ∈ eb_tbl) (hn : as.length = nn) (hrest : (rest.map fun v => v.category).sum ≤ 8) (hst : as.reverse ++ .ref (1000000 + i) :: rest = st) (hE : eb_Q M1 d (.ref (1000000 + i) :: as) σ Ψ) (hok : ∀ r1 σ1, Ψ r1 σ1 → σ1.1 = σ.1 ∨ ((∀ q ∈ l, eb_okv σ.1 q.2) ∧ ∀ v ∈ rest, eb_okv σ.1 v)) (kk : ∀ r1 σ1, Ψ r1 σ1 → eb_P M (d + 1) (pc + 3) l (r1.toList ++ rest) σ1 Φ) : eb_P M (d + 1) pc l st σ Φ := by
  obtain ⟨r1, σ1, h1, hE⟩ := hE
  obtain ⟨r, τ, h, v⟩ := kk r1 σ1 h1
  exact ⟨r, τ, h, eb_callT hE hi hcl hd hL hM hI hn hrest hst (hok r1 σ1 h1) v⟩
theorem ep_sioobe {idx : Nat} (hd : decode M.2.1 pc = .ok (.getstatic idx, 3)) (hL : Cond.fieldLink M.1.cls idx "jdk/internal/util/Preconditions" "SIOOBE_FORMATTER" "Ljava/util/function/BiFunction;" ∈ eb_tbl) {r : Option Value} {τ : eb_S} (hΦ : Φ r τ) (k0 : eb_V M d (pc + 3) l (.null :: st) σ r τ) (k1 : eb_V M d (pc + 3) l (.ref 1000070 :: st) σ r τ) : eb_P M d pc l st σ Φ := ⟨r, τ, hΦ, eb_sioobe hd hL k0 k1⟩
end EPR
