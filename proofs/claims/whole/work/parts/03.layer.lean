/-! THE LAYER: a flat memory of numbered cells, and a judgement V over it that hides the machine. eb_S: how many cells, (cells made, slots made), kinds, ints, longs, references (by cell numbers). Cells from 1000000 on are outside: constants, the script. -/
abbrev eb_S : Type := Nat × (Nat × Nat) × (Nat → Nat × Nat) × (Nat → Nat → Int32) × (Nat → Nat → Int64) × (Nat → Nat → Option Nat)
abbrev eb_M : Type := MethodName × ByteArray × Nat × Option FieldType
abbrev eb_cl : List vw_C := [(RX0, TX0, 3), (RX1, TX1, 1), (RX2, TX2, 3), (RX3, TX3, 2), (RX4, TX4, 2), (RX5, TX5, 11), (RX6, TX6, 9), (RX7, TX7, 9), (RX8, TX8, 4), (RX9, TX9, 2), (RX10, TX10, 18), (RX11, TX11, 42)]
def eb_ty (c k : Nat) : FieldType := match c with
  | 0 => tyX0 k
  | 1 => tyX1 k
  | 2 => tyX2 k
  | 3 => tyX3 k
  | 4 => tyX4 k
  | 5 => tyX5 k
  | 6 => tyX6 k
  | 7 => tyX7 k
  | 8 => tyX8 k
  | 9 => tyX9 k
  | 10 => tyX10 k
  | 11 => tyX11 k
  | _ => .int
def eb_nf (c : Nat) : Nat := match c with
  | 0 => 3
  | 1 => 1
  | 2 => 3
  | 3 => 2
  | 4 => 2
  | 5 => 11
  | 6 => 9
  | 7 => 9
  | 8 => 4
  | 9 => 2
  | 10 => 18
  | 11 => 42
  | _ => 0
def eb_fk (t : FieldType) : Nat := match t with
  | .object _ => 2
  | .array _ => 2
  | .long => 1
  | _ => 0
def eb_mv (ad : Nat → Nat) (v : Value) : Value := match v with
  | .ref a => .ref (ad a)
  | v => v
theorem eb_mv_cat (ad : Nat → Nat) (v : Value) : (eb_mv ad v).category = v.category := by cases v <;> rfl
def eb_fv (ad : Nat → Nat) (σ : eb_S) (i c k : Nat) : Value := if eb_fk (eb_ty c k) = 2 then va_rf ((σ.2.2.2.2.2 i k).map ad) else if eb_fk (eb_ty c k) = 1 then .long (σ.2.2.2.2.1 i k) else .int (σ.2.2.2.1 i k)
def eb_ent (AC : Nat → ClassId) (ad : Nat → Nat) (σ : eb_S) (i : Nat) : va_E :=
  if (σ.2.2.1 i).1 < 20 then .inr ((σ.2.2.1 i).1, (List.range (eb_nf (σ.2.2.1 i).1)).map (eb_fv ad σ i (σ.2.2.1 i).1))
  else if (σ.2.2.1 i).1 = 20 then .inl (AC 0, (σ.2.2.1 i).2, .inl (σ.2.2.2.1 i))
  else if (σ.2.2.1 i).1 = 21 then .inl (AC 1, (σ.2.2.1 i).2, .inl (σ.2.2.2.1 i))
  else if (σ.2.2.1 i).1 = 22 then .inl (AC 2, (σ.2.2.1 i).2, .inl (σ.2.2.2.1 i))
  else if (σ.2.2.1 i).1 = 23 then .inl (AC 3, (σ.2.2.1 i).2, .inr (.inl (σ.2.2.2.2.1 i)))
  else .inl (AC 4, (σ.2.2.1 i).2, .inr (.inr (.inr (.inr (fun k => (σ.2.2.2.2.2 i k).map ad)))))
def eb_wl (AC : Nat → ClassId) (ad : Nat → Nat) (σ : eb_S) : va_W := (List.range σ.1).map (fun i => (ad i, eb_ent AC ad σ i))
theorem eb_wl_at {AC : Nat → ClassId} {ad : Nat → Nat} {σ : eb_S} {i : Nat} (hi : i < σ.1) : (eb_wl AC ad σ)[i]? = some (ad i, eb_ent AC ad σ i) := by
  simp [eb_wl, hi]
theorem eb_ent_congr {AC : Nat → ClassId} {ad : Nat → Nat} {σ τ : eb_S} {i : Nat} (h1 : σ.2.2.1 i = τ.2.2.1 i) (h2 : σ.2.2.2.1 i = τ.2.2.2.1 i) (h3 : σ.2.2.2.2.1 i = τ.2.2.2.2.1 i) (h4 : σ.2.2.2.2.2 i = τ.2.2.2.2.2 i) : eb_ent AC ad σ i = eb_ent AC ad τ i := by
  have hf : ∀ c k, eb_fv ad σ i c k = eb_fv ad τ i c k := fun c k => by unfold eb_fv; rw [h2, h3, h4]
  unfold eb_ent
  rw [h1, h2, h3, h4, show eb_fv ad σ i (τ.2.2.1 i).1 = eb_fv ad τ i (τ.2.2.1 i).1 from funext (hf _)]
theorem eb_wl_set {AC : Nat → ClassId} {ad : Nat → Nat} {σ τ : eb_S} {i : Nat} (hn : τ.1 = σ.1) (hi : i < σ.1) (h : ∀ j, j ≠ i → eb_ent AC ad τ j = eb_ent AC ad σ j) : (eb_wl AC ad σ).set i (ad i, eb_ent AC ad τ i) = eb_wl AC ad τ := by
  apply List.ext_getElem?
  intro j
  by_cases hj : j = i
  · subst hj
    rw [List.getElem?_set_self (by simp [eb_wl, hi]), eb_wl_at (by omega)]
  · rw [List.getElem?_set_ne (Ne.symm hj)]
    by_cases hlt : j < σ.1
    · rw [eb_wl_at hlt, eb_wl_at (by omega), h j hj]
    · simp [eb_wl, hlt, hn]
/-- references of the memory are to cells that there are, or outside -/
def eb_wf (σ : eb_S) : Prop := ∀ i k j, σ.2.2.2.2.2 i k = some j → j < σ.1 ∨ 1000000 ≤ j
def eb_Wd (D : va_G) (AC : Nat → ClassId) (A : Nat → Prop) (H0 : Heap) (ad : Nat → Nat) (σ : eb_S) (H : Heap) (locs : List Loc) : Prop :=
  va_P D eb_cl (eb_wl AC ad σ) H ∧ va_D A (eb_wl AC ad σ) ∧ va_S A H0 H locs ∧ eb_wf σ
def eb_tys (AC : Nat → ClassId) : List (ClassId × FieldType) := [(AC 0, .int), (AC 1, .byte), (AC 2, .boolean), (AC 3, .long), (AC 4, .object RX7)]
def eb_tbl : List Cond := lw_tbl.filter goodWord
def eb_isN (w : Cond) : Bool := match w with
  | .fieldLinkNest .. => true
  | .methodLinkNest .. => true
  | _ => false
def eb_nst : List Cond := lw_tbl.filter eb_isN

def eb_strs : List (String × Nat × String × Nat) := [("ElderBallast$Rule", 83, "gtkplin", 0), ("ElderBallast$Text", 26, "9", 1), ("ElderBallast$Text", 32, "95+5;", 2), ("ElderBallast$Text", 46, "+9", 3), ("ElderBallast$Text", 48, "", 4), ("ElderBallast$Text", 62, "n9", 5), ("ElderBallast$Text", 64, "t95", 6), ("ElderBallast$Text", 66, "m9+5", 7), ("ElderBallast$Text", 68, "e9", 8), ("ElderBallast$Text", 70, "p91", 9), ("ElderBallast$Text", 72, "s9", 10)]
def eb_len : List Nat := [7, 1, 5, 2, 0, 2, 3, 4, 2, 3, 2]
def eb_byt : List (List Int32) := [[103, 116, 107, 112, 108, 105, 110], [57], [57, 53, 43, 53, 59], [43, 57], [], [110, 57], [116, 57, 53], [109, 57, 43, 53], [101, 57], [112, 57, 49], [115, 57]]
/-- what lies outside: String constants, the script, a static row, a static flag -/
def eb_Y (ad : Nat → Nat) (σ : eb_S) (A : Nat → Prop) (U : State) (H : Heap) : Prop :=
  vk_S 11 eb_len eb_byt (fun i => ad (1000000 + i)) (fun i => ad (1000020 + i)) A U H ∧ (∀ q ∈ eb_strs, vk_R q.1 q.2.1 q.2.2.1 (ad (1000000 + q.2.2.2)) U) ∧
  va_Z "ElderBallast" "HEARD_MOST" "[I" (.ref (ad 1000050)) A U H ∧ va_Z "java/lang/String" "COMPACT_STRINGS" "Z" (.int 1) A U H ∧
  (∀ j, j = 1000050 ∨ j = 1000060 → va_T .int (ad j) (σ.2.2.1 j).2 (fun k => .int (σ.2.2.2.1 j k)) A U H) ∧
  (va_Z "jdk/internal/util/Preconditions" "SIOOBE_FORMATTER" "Ljava/util/function/BiFunction;" .null A U H ∨ va_Z "jdk/internal/util/Preconditions" "SIOOBE_FORMATTER" "Ljava/util/function/BiFunction;" (.ref (ad 1000070)) A U H) ∧
  vx_Zq Bundle.tN "UNASSIGNED_STACK" Bundle.steD A U H ∧ vx_Zq Bundle.tN "SUPPRESSED_SENTINEL" Bundle.listD A U H
/-- what a method's frame stands on -/
def eb_C (M : eb_M) (d : Nat) (l0 : Launch) (p : Program) (R : Room) (s : State) (m : MethodId) (args : Array Value) (meth : Method) (c : Code) (D : va_G) (AC : Nat → ClassId) (A : Nat → Prop) : Prop :=
  p.tables.exec = Jvm.exec ∧ c.code = M.2.1 ∧ c.maxLocals = M.2.2.1 ∧ s.vm.findClass M.1.cls = some m.cls ∧ (∀ w ∈ eb_tbl, w.before args s = true) ∧ va_K D eb_cl (eb_tys AC) s ∧ (∀ q, s.heap.size ≤ q → A q) ∧ d ≤ R.frames ∧ 40 * d ≤ R.locals ∧ meth.name = M.1.name ∧ (∀ w ∈ eb_nst, va_Nw w s) ∧ va_AO RX7 s ∧ l0.stackTraces = false
def eb_ex (ad ad1 : Nat → Nat) (n n1 : Nat) : Prop := (∀ i, i < n ∨ 1000000 ≤ i → ad1 i = ad i) ∧ (n1 = n → ad1 = ad)
theorem eb_ex.rf (ad : Nat → Nat) (n n1 : Nat) : eb_ex ad ad n n1 := ⟨fun _ _ => rfl, fun _ => rfl⟩
def eb_ret (M : eb_M) (pc : Nat) (r : Option Value) : Prop := match r with
  | none => decode M.2.1 pc = .ok (.return_, 1) ∧ M.2.2.2 = none
  | some (.int x) => decode M.2.1 pc = .ok (.ireturn, 1) ∧ ∃ ty, M.2.2.2 = some ty ∧ narrow ty (.int x) = .int x
  | some (.long _) => decode M.2.1 pc = .ok (.lreturn, 1) ∧ M.2.2.2 = some .long
  | some (.ref _) => decode M.2.1 pc = .ok (.areturn, 1) ∧ ∃ rt, M.2.2.2 = some rt ∧ ((∃ n, rt = .object n) ∨ ∃ t, rt = .array t)
  | _ => False
/-- from σ to τ: no fewer cells and slots, and what lies outside is as it was -/
def eb_mo (σ τ : eb_S) : Prop := σ.1 ≤ τ.1 ∧ (σ.2.1.1 ≤ τ.2.1.1 ∧ σ.2.1.2 ≤ τ.2.1.2) ∧ ∀ j, 1000000 ≤ j → τ.2.2.1 j = σ.2.2.1 j ∧ τ.2.2.2.1 j = σ.2.2.2.1 j
theorem eb_mo.rf (σ : eb_S) : eb_mo σ σ := ⟨Nat.le_refl _, ⟨Nat.le_refl _, Nat.le_refl _⟩, fun _ _ => ⟨rfl, rfl⟩⟩
theorem eb_mo.tr {σ τ υ : eb_S} (h1 : eb_mo σ τ) (h2 : eb_mo τ υ) : eb_mo σ υ := ⟨Nat.le_trans h1.1 h2.1, ⟨Nat.le_trans h1.2.1.1 h2.2.1.1, Nat.le_trans h1.2.1.2 h2.2.1.2⟩, fun j hj => ⟨(h2.2.2 j hj).1.trans (h1.2.2 j hj).1, (h2.2.2 j hj).2.trans (h1.2.2 j hj).2⟩⟩
/-- THE JUDGEMENT: from pc with locals l, stack st and memory σ the method comes to its end, with the answer r and the memory τ -/
def eb_V (M : eb_M) (d pc : Nat) (l : List (Nat × Value)) (st : List Value) (σ : eb_S) (r : Option Value) (τ : eb_S) : Prop :=
  eb_mo σ τ ∧
  ∀ (p : Program) (l0 : Launch) (e : Env) (R : Room) (s : State) (m : MethodId) (args : Array Value) (below : List Frame) (meth : Method) (c : Code) (Q : State → Prop) (H : Heap) (locs : List Loc) (cells slots : Nat) (D : va_G) (AC : Nat → ClassId) (A : Nat → Prop) (ad : Nat → Nat) (ls : Array Slot),
    eb_C M d l0 p R s m args meth c D AC A → eb_Y ad σ A s s.heap → eb_Wd D AC A s.heap ad σ H locs → lv_has ls M.2.2.1 (l.map (fun q => (q.1, eb_mv ad q.2))) →
    cells + (τ.2.1.1 - σ.2.1.1) ≤ R.cells → slots + (τ.2.1.2 - σ.2.1.2) ≤ R.slots →
    (∀ (H1 : Heap) (locs1 : List Loc) (ad1 : Nat → Nat) (ls1 : Array Slot) (pc1 : Nat), eb_ex ad ad1 σ.1 τ.1 → eb_Wd D AC A s.heap ad1 τ H1 locs1 → eb_ret M pc1 r → W p l0 e R s m args below meth c H1 locs1 (cells + (τ.2.1.1 - σ.2.1.1)) (slots + (τ.2.1.2 - σ.2.1.2)) Q (F0 m pc1 ls1 ((r.map (eb_mv ad1)).toList))) →
    W p l0 e R s m args below meth c H locs cells slots Q (F0 m pc ls (st.map (eb_mv ad)))

