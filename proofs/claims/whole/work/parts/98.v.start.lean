/-! THE CLAIM OUT OF ONE WALK OF THE LAW'S BODY. Your part is whole_start (and what it stands on); all else here is the same for every law, but numbers. -/
def R_law : String := "ElderBallastLaw"
def lw_P (b : Addr) (xs : List Int32) (args : Array Value) (s : State) : Prop := args = #[.ref b] ∧ s.IntsAt b xs ∧ xs.length ≤ 2560 ∧ (Jvm.Cond.and given_1 narrow_1).before args s = true
def lw_Q (_ : Array Value) (s : State) (o : Outcome) (t : State) : Prop := o = .returned (some (.int 1)) ∧ Framed s o t [] 601024 7293034
def lw_Z (below : List Frame) (a : Array Value) (s : State) : State → Prop := fun t => ∃ o, t.status = .running ∧ Ended t below o ∧ lw_Q a s o t
/-- the law's own end, with 1 on the stack, nothing written that was there before, its room as the claim has it -/
theorem lw_ret {p : Program} {l : Launch} {e : Env} {s : State} {m : MethodId} {below : List Frame} {meth : Method} {c : Code} {b : Nat} (hx : p.tables.exec = Jvm.exec) (hb : c.code = code) (hr : meth.sig.returnType = ret) (hlocks : meth.locks = false) {pc : Nat} {H : Heap} {ls : Array Slot} (hdg : decode code pc = .ok (.ireturn, 1)) : W p l e room_1 s m #[Value.ref b] below meth c H [] 601024 7293034 (lw_Z below #[Value.ref b] s) (F0 m pc ls [.int 1]) := by
  intro T hT X
  obtain ⟨fs, hret, hrun, hended, hW, hframe⟩ := X.leave (v := some (.int 1)) (hlocks := hlocks) (fun h => by rw [hr] at h; cases h)
  have hmeth' : T.vm.method? m = some meth := X.method'
  refine ⟨T.setFrames fs, ?_, .returned (some (.int 1)), hrun, hended, rfl, ⟨_, rfl⟩, hW, hframe⟩
  jvm_step X.here [X.here.top, hx, hb, hdg, hmeth', hr, ret, narrow_b1]
  (try refine ⟨rfl, ?_⟩); (try refine ⟨rfl, ?_⟩)
  first | (intro acts; rw [hret _ acts rfl rfl rfl]) | rw [hret _ _ rfl rfl rfl]
  exact Steps.refl _
/-- what holds at the law's entry: the machine, the code, the tables' words (any of lw_tbl by 'hts w (by decide +kernel)'), the script of L ints xs at the cell b, what the Statement gives of the start (any of its parts by flat_of_before) -/
def lw_At (p : Program) (s : State) (m : MethodId) (meth : Method) (c : Code) (b L : Nat) (xs : Nat → Int32) : Prop :=
  p.tables.exec = Jvm.exec ∧ c.code = code ∧ meth.sig.returnType = ret ∧ c.maxLocals = 8 ∧ s.vm.findClass R_law = some m.cls ∧ (∀ w ∈ lw_tbl, w.before #[Value.ref b] s = true) ∧ va_X b L xs s s.heap ∧ b < s.heap.size ∧ meth.locks = false ∧ (Jvm.Cond.and given_1 narrow_1).before #[Value.ref b] s = true
/-- the memory at the law's entry: no cell; outside lie the script and the constants -/
def z_k0 (L : Nat) : Nat → Nat × Nat := fun j => if j = 1000050 then (20, 5) else if j = 1000060 then (20, L) else (0, 0)
def z_hm : Nat → Int32 := fun k => if k = 0 then 9 else if k = 1 then 5 else if k = 2 then 1 else if k = 3 then 5 else 9
def z_i0 (xs : Nat → Int32) : Nat → Nat → Int32 := fun j => if j = 1000050 then z_hm else if j = 1000060 then xs else fun _ => 0
def z_s0 (L : Nat) (xs : Nat → Int32) : eb_S := (0, (0, 0), z_k0 L, z_i0 xs, fun _ _ => 0, fun _ _ => none)
def z_tm (i : Nat) : Term := ([Term.string "ElderBallast$Rule" 83, Term.string "ElderBallast$Text" 26, Term.string "ElderBallast$Text" 32, Term.string "ElderBallast$Text" 46, Term.string "ElderBallast$Text" 48, Term.string "ElderBallast$Text" 62, Term.string "ElderBallast$Text" 64, Term.string "ElderBallast$Text" 66, Term.string "ElderBallast$Text" 68, Term.string "ElderBallast$Text" 70, Term.string "ElderBallast$Text" 72] : List Term).getD i (Term.int 0)
set_option maxRecDepth 100000 in
theorem z_f1 : ∀ i, i < 11 → Cond.exactly (z_tm i) "java/lang/String" ∈ flatC (Jvm.Cond.and given_1 narrow_1) := by decide +kernel
set_option maxRecDepth 100000 in
theorem z_f2 : ∀ i, i < 11 → Cond.eq (.field (z_tm i) "java/lang/String" "coder" "B") (.int 0) ∈ flatC (Jvm.Cond.and given_1 narrow_1) := by decide +kernel
set_option maxRecDepth 100000 in
theorem z_f3 : ∀ i, i < 11 → Cond.arrayOf (.field (z_tm i) "java/lang/String" "value" "[B") .byte ∈ flatC (Jvm.Cond.and given_1 narrow_1) := by decide +kernel
set_option maxRecDepth 100000 in
theorem z_f4 : ∀ i, i < 11 → Cond.eq (.length (.field (z_tm i) "java/lang/String" "value" "[B")) (.int (Int32.ofNat (eb_len.getD i 0))) ∈ flatC (Jvm.Cond.and given_1 narrow_1) := by decide +kernel
set_option maxRecDepth 100000 in
theorem z_f5 : ∀ i, i < 11 → ∀ j, j < eb_len.getD i 0 → Cond.eq (.elem (.field (z_tm i) "java/lang/String" "value" "[B") (.int (Int32.ofNat j))) (.int ((eb_byt.getD i []).getD j 0)) ∈ flatC (Jvm.Cond.and given_1 narrow_1) := by decide +kernel
set_option maxRecDepth 100000 in
theorem z_f6 : ∀ i, i < 11 → ∀ j, j < 11 → i ≠ j → Cond.not (Cond.eq (z_tm i) (z_tm j)) ∈ flatC (Jvm.Cond.and given_1 narrow_1) ∨ Cond.not (Cond.eq (z_tm j) (z_tm i)) ∈ flatC (Jvm.Cond.and given_1 narrow_1) := by decide +kernel
set_option maxRecDepth 100000 in
theorem z_f7 : ∀ j, j < 5 → Cond.eq (.elem (.static "ElderBallast" "HEARD_MOST" "[I") (.int (Int32.ofNat j))) (.int (z_hm j)) ∈ flatC (Jvm.Cond.and given_1 narrow_1) := by decide +kernel
set_option maxRecDepth 100000 in
theorem z_f8 : Cond.arrayOf (.static "ElderBallast" "HEARD_MOST" "[I") .int ∈ flatC (Jvm.Cond.and given_1 narrow_1) ∧ Cond.eq (.length (.static "ElderBallast" "HEARD_MOST" "[I")) (.int 5) ∈ flatC (Jvm.Cond.and given_1 narrow_1) ∧ Cond.eq (.static "java/lang/String" "COMPACT_STRINGS" "Z") (.int 1) ∈ flatC (Jvm.Cond.and given_1 narrow_1) ∧ Cond.isRef (.static "jdk/internal/util/Preconditions" "SIOOBE_FORMATTER" "Ljava/util/function/BiFunction;") ∈ flatC (Jvm.Cond.and given_1 narrow_1) ∧ Cond.isRef (.static Bundle.tN "UNASSIGNED_STACK" Bundle.steD) ∈ flatC (Jvm.Cond.and given_1 narrow_1) ∧ Cond.isRef (.static Bundle.tN "SUPPRESSED_SENTINEL" Bundle.listD) ∈ flatC (Jvm.Cond.and given_1 narrow_1) := by decide +kernel
theorem z_sr : ∀ q ∈ eb_strs, Cond.stringRef q.1 q.2.1 q.2.2.1 ∈ lw_tbl ∧ z_tm q.2.2.2 = Term.string q.1 q.2.1 := by
  intro q hq
  simp only [eb_strs, List.mem_cons, List.not_mem_nil, or_false] at hq
  rcases hq with rfl | rfl | rfl | rfl | rfl | rfl | rfl | rfl | rfl | rfl | rfl
  · exact ⟨(List.mem_append_right _ (List.mem_append_left _ (List.mem_of_getElem? (i := 98) rfl)) : _ ∈ lw_tbl), rfl⟩
  · exact ⟨(List.mem_append_right _ (List.mem_append_right _ (List.mem_append_right _ (List.mem_append_left _ (List.mem_of_getElem? (i := 17) rfl)))) : _ ∈ lw_tbl), rfl⟩
  · exact ⟨(List.mem_append_right _ (List.mem_append_right _ (List.mem_append_right _ (List.mem_append_left _ (List.mem_of_getElem? (i := 71) rfl)))) : _ ∈ lw_tbl), rfl⟩
  · exact ⟨(List.mem_append_right _ (List.mem_append_right _ (List.mem_append_right _ (List.mem_append_left _ (List.mem_of_getElem? (i := 95) rfl)))) : _ ∈ lw_tbl), rfl⟩
  · exact ⟨(List.mem_append_right _ (List.mem_append_right _ (List.mem_append_right _ (List.mem_append_right _ (List.mem_append_left _ (List.mem_of_getElem? (i := 24) rfl))))) : _ ∈ lw_tbl), rfl⟩
  · exact ⟨(List.mem_append_right _ (List.mem_append_right _ (List.mem_append_right _ (List.mem_append_right _ (List.mem_append_left _ (List.mem_of_getElem? (i := 28) rfl))))) : _ ∈ lw_tbl), rfl⟩
  · exact ⟨(List.mem_append_right _ (List.mem_append_right _ (List.mem_append_right _ (List.mem_append_right _ (List.mem_append_left _ (List.mem_of_getElem? (i := 29) rfl))))) : _ ∈ lw_tbl), rfl⟩
  · exact ⟨(List.mem_append_right _ (List.mem_append_right _ (List.mem_append_right _ (List.mem_append_right _ (List.mem_append_left _ (List.mem_of_getElem? (i := 30) rfl))))) : _ ∈ lw_tbl), rfl⟩
  · exact ⟨(List.mem_append_right _ (List.mem_append_right _ (List.mem_append_right _ (List.mem_append_right _ (List.mem_append_left _ (List.mem_of_getElem? (i := 31) rfl))))) : _ ∈ lw_tbl), rfl⟩
  · exact ⟨(List.mem_append_right _ (List.mem_append_right _ (List.mem_append_right _ (List.mem_append_right _ (List.mem_append_left _ (List.mem_of_getElem? (i := 32) rfl))))) : _ ∈ lw_tbl), rfl⟩
  · exact ⟨(List.mem_append_right _ (List.mem_append_right _ (List.mem_append_right _ (List.mem_append_right _ (List.mem_append_left _ (List.mem_of_getElem? (i := 33) rfl))))) : _ ∈ lw_tbl), rfl⟩
set_option maxHeartbeats 4000000 in
set_option maxRecDepth 100000 in
/-- THE REDUCTION: the law's walk in the layer gives its walk on the machine -/
theorem eb_law {p : Program} {e : Env} {s : State} {m : MethodId} {below : List Frame} {meth : Method} {c : Code} (l : Launch) (hflags : l.flags = flags0) {b L : Nat} {xs : Nat → Int32} (hL : L ≤ 2560) (C0 : lw_At p s m meth c b L xs) (hname : meth.name = "law")
    (HV : ∃ τ : eb_S, eb_V mL_law 2000 0 [(0, .ref 1000060)] [] (z_s0 L xs) (some (.int 1)) τ ∧ τ.2.1.1 ≤ 601024 ∧ τ.2.1.2 ≤ 7293034) : W p l e room_1 s m #[Value.ref b] below meth c s.heap [] 0 0 (lw_Z below #[Value.ref b] s) (entryFrame m ([Value.ref b] : List Value).toArray 8) := by
  obtain ⟨hx, hb, hr, hml, hown, hts, hX, hbl, hlocks, hgv⟩ := id C0
  obtain ⟨τ, V, hτ1, hτ2⟩ := HV
  have hf := flat_of_before _ hgv
  have hA : ∀ a : Nat, a < s.heap.size → ¬ (fun q : Nat => s.heap.size ≤ q) a := fun a h => Nat.not_le.mpr h
  obtain ⟨c0, i0, k0⟩ := u_known (C := RX0) (T := TX0) (N := 3) (n := 3) hts inX0 (hts (.instantiable RX0 3) (List.mem_append_right _ (List.mem_append_right _ (List.mem_append_left _ (List.mem_of_getElem? (i := 149) rfl))) : _ ∈ lw_tbl))
  obtain ⟨c1, i1, k1⟩ := u_known (C := RX1) (T := TX1) (N := 1) (n := 1) hts inX1 (hts (.instantiable RX1 1) (List.mem_append_right _ (List.mem_append_right _ (List.mem_append_left _ (List.mem_of_getElem? (i := 139) rfl))) : _ ∈ lw_tbl))
  obtain ⟨c2, i2, k2⟩ := u_known (C := RX2) (T := TX2) (N := 3) (n := 3) hts inX2 (hts (.instantiable RX2 3) (List.mem_append_right _ (List.mem_append_right _ (List.mem_append_left _ (List.mem_of_getElem? (i := 95) rfl))) : _ ∈ lw_tbl))
  obtain ⟨c3, i3, k3⟩ := u_known (C := RX3) (T := TX3) (N := 2) (n := 2) hts inX3 (hts (.instantiable RX3 2) (List.mem_append_right _ (List.mem_append_right _ (List.mem_append_left _ (List.mem_of_getElem? (i := 166) rfl))) : _ ∈ lw_tbl))
  obtain ⟨c4, i4, k4⟩ := u_known (C := RX4) (T := TX4) (N := 2) (n := 2) hts inX4 (hts (.instantiable RX4 2) (List.mem_append_right _ (List.mem_append_left _ (List.mem_of_getElem? (i := 51) rfl)) : _ ∈ lw_tbl))
  obtain ⟨c5, i5, k5⟩ := u_known (C := RX5) (T := TX5) (N := 11) (n := 11) hts inX5 (hts (.instantiable RX5 11) (List.mem_append_right _ (List.mem_append_left _ (List.mem_of_getElem? (i := 73) rfl)) : _ ∈ lw_tbl))
  obtain ⟨c6, i6, k6⟩ := u_known (C := RX6) (T := TX6) (N := 9) (n := 9) hts inX6 (hts (.instantiable RX6 9) (List.mem_append_right _ (List.mem_append_left _ (List.mem_of_getElem? (i := 67) rfl)) : _ ∈ lw_tbl))
  obtain ⟨c7, i7, k7⟩ := u_known (C := RX7) (T := TX7) (N := 9) (n := 9) hts inX7 (hts (.instantiable RX7 9) (List.mem_append_right _ (List.mem_append_right _ (List.mem_append_left _ (List.mem_of_getElem? (i := 40) rfl))) : _ ∈ lw_tbl))
  obtain ⟨c8, i8, k8⟩ := u_known (C := RX8) (T := TX8) (N := 4) (n := 4) hts inX8 (hts (.instantiable RX8 4) (List.mem_append_right _ (List.mem_append_right _ (List.mem_append_left _ (List.mem_of_getElem? (i := 115) rfl))) : _ ∈ lw_tbl))
  obtain ⟨c9, i9, k9⟩ := u_known (C := RX9) (T := TX9) (N := 2) (n := 2) hts inX9 (hts (.instantiable RX9 2) (List.mem_append_right _ (List.mem_append_left _ (List.mem_of_getElem? (i := 33) rfl)) : _ ∈ lw_tbl))
  obtain ⟨c10, i10, k10⟩ := u_known (C := RX10) (T := TX10) (N := 18) (n := 18) hts inX10 (hts (.instantiable RX10 18) (List.mem_append_right _ (List.mem_append_left _ (List.mem_of_getElem? (i := 25) rfl)) : _ ∈ lw_tbl))
  obtain ⟨c11, i11, k11⟩ := u_known (C := RX11) (T := TX11) (N := 42) (n := 42) hts inX11 (hts (.instantiable RX11 42) (List.mem_append_right _ (List.mem_append_right _ (List.mem_append_right _ (List.mem_append_right _ (List.mem_append_right _ (List.mem_append_left _ (List.mem_of_getElem? (i := 218) rfl)))))) : _ ∈ lw_tbl))
  obtain ⟨dC, dI, hKc⟩ : ∃ (dC : Nat → ClassId) (dI : Nat → Nat → Nat), ∀ (k : Nat) (q : vw_C), eb_cl[k]? = some q → u_Kn s q.1 q.2.1 q.2.2 (dC k) (dI k) := by
    refine ⟨fun k => ([c0, c1, c2, c3, c4, c5, c6, c7, c8, c9, c10, c11] : List ClassId).getD k c0, fun k => ([i0, i1, i2, i3, i4, i5, i6, i7, i8, i9, i10, i11] : List (Nat → Nat)).getD k i0, ?_⟩
    intro k q hq
    match k, hq with
    | 0, hq => cases hq; exact k0
    | 1, hq => cases hq; exact k1
    | 2, hq => cases hq; exact k2
    | 3, hq => cases hq; exact k3
    | 4, hq => cases hq; exact k4
    | 5, hq => cases hq; exact k5
    | 6, hq => cases hq; exact k6
    | 7, hq => cases hq; exact k7
    | 8, hq => cases hq; exact k8
    | 9, hq => cases hq; exact k9
    | 10, hq => cases hq; exact k10
    | 11, hq => cases hq; exact k11
    | k + 12, hq => simp [eb_cl] at hq
  obtain ⟨a0, ka0, cp0, f01, f02, f03⟩ := Cond.arrayClass_spec (type := .int) (hts (.arrayClass .int) (List.mem_append_right _ (List.mem_append_left _ (List.mem_of_getElem? (i := 49) rfl)) : _ ∈ lw_tbl))
  obtain ⟨a1, ka1, cp1, f11, f12, f13⟩ := Cond.arrayClass_spec (type := .byte) (hts (.arrayClass .byte) (List.mem_append_right _ (List.mem_append_right _ (List.mem_append_left _ (List.mem_of_getElem? (i := 9) rfl))) : _ ∈ lw_tbl))
  obtain ⟨a2, ka2, cp2, f21, f22, f23⟩ := Cond.arrayClass_spec (type := .boolean) (hts (.arrayClass .boolean) (List.mem_append_right _ (List.mem_append_right _ (List.mem_append_left _ (List.mem_of_getElem? (i := 8) rfl))) : _ ∈ lw_tbl))
  obtain ⟨a3, ka3, cp3, f31, f32, f33⟩ := Cond.arrayClass_spec (type := .long) (hts (.arrayClass .long) (List.mem_append_right _ (List.mem_append_left _ (List.mem_of_getElem? (i := 65) rfl)) : _ ∈ lw_tbl))
  obtain ⟨cp4, a4, ka4, f41, -, f42, f43, f44⟩ := Cond.arrayOver_spec (hts (.arrayOver (.object RX7)) (List.mem_append_right _ (List.mem_append_right _ (List.mem_append_left _ (List.mem_of_getElem? (i := 101) rfl))) : _ ∈ lw_tbl))
  have hK : va_K (dC, dI) eb_cl (eb_tys (fun k => ([a0, a1, a2, a3, a4] : List ClassId).getD k a0)) s := by
    refine ⟨hKc, fun k q hq => ?_⟩
    match k, hq with
    | 0, hq => cases hq; exact ⟨fun n z => ⟨fun k h => (by cases h), ka0, f02, cp0, f03⟩, f01⟩
    | 1, hq => cases hq; exact ⟨fun n z => ⟨fun k h => (by cases h), ka1, f12, cp1, f13⟩, f11⟩
    | 2, hq => cases hq; exact ⟨fun n z => ⟨fun k h => (by cases h), ka2, f22, cp2, f23⟩, f21⟩
    | 3, hq => cases hq; exact ⟨fun n z => ⟨fun k h => (by cases h), ka3, f32, cp3, f33⟩, f31⟩
    | 4, hq => cases hq; exact ⟨fun n z => ⟨fun k h => (by cases h), ka4, f42, cp4, f43⟩, ka4, cp4, f42, f43, f41, f44⟩
    | k + 5, hq => simp [eb_tys] at hq
  obtain ⟨adK, adV, hS, hev⟩ := vk_Sof (args := #[Value.ref b]) (s := s) (N := 11) (tm := z_tm) (len := eb_len) (byt := eb_byt) (A := fun q : Nat => s.heap.size ≤ q) (by decide) (fun i hi => hf _ (z_f1 i hi)) (fun i hi => hf _ (z_f2 i hi)) (fun i hi => hf _ (z_f3 i hi)) (fun i hi => hf _ (z_f4 i hi)) (fun i hi j hj => hf _ (z_f5 i hi j hj)) (fun i j hi hj hij => (z_f6 i hi j hj hij).elim (fun z => Or.inl (hf _ z)) (fun z => Or.inr (hf _ z))) hA
  obtain ⟨hmA, hmE, hmT⟩ := va_Tof (args := #[Value.ref b]) (s := s) (tm := .static "ElderBallast" "HEARD_MOST" "[I") (ty := .int) (N := 5) (f := fun j => .int (z_hm j)) (A := fun q : Nat => s.heap.size ≤ q) (by decide) (hf _ z_f8.1) (va_eqt (hf _ z_f8.2.1)) (fun j hj => va_eqt (hf _ (z_f7 j hj))) hA
  have hZh := va_Zof (A := fun q : Nat => s.heap.size ≤ q) (hts (.laysStatic "ElderBallast" "HEARD_MOST" "[I") (List.mem_append_right _ (List.mem_append_right _ (List.mem_append_right _ (List.mem_append_right _ (List.mem_append_right _ (List.mem_append_left _ (List.mem_of_getElem? (i := 10) rfl)))))) : _ ∈ lw_tbl)) (hts (.initialized "ElderBallast") (List.mem_append_right _ (List.mem_append_left _ (List.mem_of_getElem? (i := 1) rfl)) : _ ∈ lw_tbl)) hmE hA
  have hZc := va_Zof (A := fun q : Nat => s.heap.size ≤ q) (hts (.laysStatic "java/lang/String" "COMPACT_STRINGS" "Z") (List.mem_append_right _ (List.mem_append_left _ (List.mem_of_getElem? (i := 112) rfl)) : _ ∈ lw_tbl)) (hts (.initialized "java/lang/String") (List.mem_append_right _ (List.mem_append_left _ (List.mem_of_getElem? (i := 6) rfl)) : _ ∈ lw_tbl)) (va_eqi (hf _ z_f8.2.2.1)) hA
  have hZq := vx_Zqof (A := fun q : Nat => s.heap.size ≤ q) (hts (.laysStatic "jdk/internal/util/Preconditions" "SIOOBE_FORMATTER" "Ljava/util/function/BiFunction;") (List.mem_append_right _ (List.mem_append_left _ (List.mem_of_getElem? (i := 155) rfl)) : _ ∈ lw_tbl)) (hts (.initialized "jdk/internal/util/Preconditions") (List.mem_append_right _ (List.mem_append_left _ (List.mem_of_getElem? (i := 10) rfl)) : _ ∈ lw_tbl)) (hf _ z_f8.2.2.2.1) hA
  have hZ1 := vx_Zqof (A := fun q : Nat => s.heap.size ≤ q) (hts (.laysStatic Bundle.tN "UNASSIGNED_STACK" Bundle.steD) (List.mem_append_right _ (List.mem_append_right _ (List.mem_append_right _ (List.mem_append_right _ (List.mem_append_right _ (List.mem_append_left _ (List.mem_of_getElem? (i := 168) rfl)))))) : _ ∈ lw_tbl)) (hts (.initialized Bundle.tN) (List.mem_append_right _ (List.mem_append_left _ (List.mem_of_getElem? (i := 19) rfl)) : _ ∈ lw_tbl)) (hf _ z_f8.2.2.2.2.1) hA
  have hZ2 := vx_Zqof (A := fun q : Nat => s.heap.size ≤ q) (hts (.laysStatic Bundle.tN "SUPPRESSED_SENTINEL" Bundle.listD) (List.mem_append_right _ (List.mem_append_right _ (List.mem_append_right _ (List.mem_append_right _ (List.mem_append_right _ (List.mem_append_left _ (List.mem_of_getElem? (i := 170) rfl)))))) : _ ∈ lw_tbl)) (hts (.initialized Bundle.tN) (List.mem_append_right _ (List.mem_append_left _ (List.mem_of_getElem? (i := 19) rfl)) : _ ∈ lw_tbl)) (hf _ z_f8.2.2.2.2.2) hA
  obtain ⟨sio, hsio⟩ : ∃ sio : Nat, va_Z "jdk/internal/util/Preconditions" "SIOOBE_FORMATTER" "Ljava/util/function/BiFunction;" .null (fun q : Nat => s.heap.size ≤ q) s s.heap ∨ va_Z "jdk/internal/util/Preconditions" "SIOOBE_FORMATTER" "Ljava/util/function/BiFunction;" (.ref sio) (fun q : Nat => s.heap.size ≤ q) s s.heap := by
    rcases hZq.1 with z | ⟨t, z⟩
    · exact ⟨0, Or.inl z⟩
    · exact ⟨t, Or.inr z⟩
  obtain ⟨ad, ad1, ad2, ad3, ad4, ad5⟩ : ∃ ad : Nat → Nat, (∀ i, i < 11 → ad (1000000 + i) = adK i) ∧ (∀ i, i < 11 → ad (1000020 + i) = adV i) ∧ ad 1000050 = hmA ∧ ad 1000060 = b ∧ ad 1000070 = sio := by
    refine ⟨fun j => if j = 1000050 then hmA else if j = 1000060 then b else if j = 1000070 then sio else if j < 1000020 then adK (j - 1000000) else adV (j - 1000020), fun i hi => ?_, fun i hi => ?_, rfl, rfl, rfl⟩
    · show (if 1000000 + i = 1000050 then hmA else if 1000000 + i = 1000060 then b else if 1000000 + i = 1000070 then sio else if 1000000 + i < 1000020 then adK (1000000 + i - 1000000) else adV (1000000 + i - 1000020)) = adK i
      rw [if_neg (by omega), if_neg (by omega), if_neg (by omega), if_pos (by omega), Nat.add_sub_cancel_left]
    · show (if 1000020 + i = 1000050 then hmA else if 1000020 + i = 1000060 then b else if 1000020 + i = 1000070 then sio else if 1000020 + i < 1000020 then adK (1000020 + i - 1000000) else adV (1000020 + i - 1000020)) = adV i
      rw [if_neg (by omega), if_neg (by omega), if_neg (by omega), if_neg (by omega), Nat.add_sub_cancel_left]
  have hY : eb_Y ad (z_s0 L xs) (fun q : Nat => s.heap.size ≤ q) s s.heap := by
    refine ⟨⟨fun i hi => ?_, fun i j hi hj hij => ?_⟩, fun q hq => ?_, by rw [ad3]; exact hZh, hZc, fun j hj => ?_, by rw [ad5]; exact hsio, hZ1, hZ2⟩
    · show va_O _ (ad (1000000 + i)) _ _ _ ∧ va_OF _ _ _ _ (ad (1000000 + i)) _ _ _ ∧ va_OF _ _ _ (.ref (ad (1000020 + i))) (ad (1000000 + i)) _ _ _ ∧ va_T _ (ad (1000020 + i)) _ _ _ _ _
      rw [ad1 i hi, ad2 i hi]
      exact hS.1 i hi
    · have hij : ad (1000000 + i) = ad (1000000 + j) := hij
      rw [ad1 i hi, ad1 j hj] at hij
      exact hS.2 i j hi hj hij
    · have hq8 : q.2.2.2 < 11 := by
        have h9 : ∀ q ∈ eb_strs, q.2.2.2 < 11 := by decide
        exact h9 q hq
      have h1 := hev q.2.2.2 hq8
      rw [(z_sr q hq).2] at h1
      rw [ad1 _ hq8]
      have h2 := hts _ (z_sr q hq).1
      exact vk_R.of h2 h1
    · rcases hj with rfl | rfl
      · rw [ad3]; exact hmT
      · rw [ad4]
        obtain ⟨scr, h1, h2, h3, h4, h5⟩ := hX
        exact ⟨scr, h1, h2, h3, Nat.le_of_eq h4.symm, by rw [h4]; rfl, h5, Nat.not_le.mpr hbl⟩
  have hl := lv_entry ([.ref b]) (n := 8) (Nat.le_of_ble_eq_true rfl)
  rw [lg_entry_eq]
  generalize (lg_sl ([.ref b]) ++ List.replicate (8 - (lg_sl ([.ref b])).length) Slot.unset).toArray = ls at hl ⊢
  have hl : lv_has ls 8 ([(0, .ref b)] : List (Nat × Value)) := hl
  have hfl : l.stackTraces = false := by
    rw [Launch.stackTraces, hflags]
    decide +kernel
  have hC : eb_C mL_law 2000 l p room_1 s m #[Value.ref b] meth c (dC, dI) (fun k => ([a0, a1, a2, a3, a4] : List ClassId).getD k a0) (fun q : Nat => s.heap.size ≤ q) :=
    ⟨hx, hb, hml, hown, fun w hw => hts w (List.mem_filter.mp hw).1, hK, fun q h => h, Nat.le_of_ble_eq_true rfl, Nat.le_of_ble_eq_true rfl, hname, fun w hw => va_Nw.of (eb_nst_on hw) (hts w (List.mem_filter.mp hw).1), va_AO.of (hts (.arrayOver (.object RX7)) (List.mem_append_right _ (List.mem_append_right _ (List.mem_append_left _ (List.mem_of_getElem? (i := 101) rfl))) : _ ∈ lw_tbl)), hfl⟩
  refine V.2 p l e room_1 s m #[Value.ref b] below meth c (lw_Z below #[Value.ref b] s) s.heap [] 0 0 (dC, dI) _ _ ad ls hC hY ⟨fun k q h => by simp [eb_wl, z_s0] at h, ⟨fun i j p q h => by simp [eb_wl, z_s0] at h, fun k q h => by simp [eb_wl, z_s0] at h⟩, va_S.rf, fun i k j h => by cases h⟩ (by rw [show ([(0, .ref 1000060)] : List (Nat × Value)).map (fun q => (q.1, eb_mv ad q.2)) = [(0, .ref b)] from by rw [← ad4]; rfl]; exact hl) (by show 0 + (τ.2.1.1 - 0) ≤ 601024; omega) (by show 0 + (τ.2.1.2 - 0) ≤ 7293034; omega) ?_
  intro H1 locs1 ad1' ls1 pc1 hex hW1 hret
  refine W.widen (k := 601024) (n := 7293034) (by show 0 + (τ.2.1.1 - 0) ≤ 601024; omega) (by show 0 + (τ.2.1.2 - 0) ≤ 7293034; omega) ?_
  refine va_forget (fun q hq => hW1.2.2.1.2.2 q hq) ?_
  exact lw_ret hx hb hr hlocks hret.1
