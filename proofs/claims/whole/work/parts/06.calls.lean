/-! ROWS of the layer: a method's contract E, and calls -/
def eb_A (ad : Nat → Nat) (n sz : Nat) : Nat → Prop := fun q => (∃ i, i < n ∧ q = ad i) ∨ sz ≤ q
def eb_Pre (D : va_G) (AC : Nat → ClassId) (ad : Nat → Nat) (σ : eb_S) (sz : Nat) (U : State) : Prop :=
  U.heap.size = sz ∧ va_P D eb_cl (eb_wl AC ad σ) U.heap ∧ va_K D eb_cl (eb_tys AC) U ∧ va_D (fun _ => True) (eb_wl AC ad σ) ∧ eb_wf σ ∧ eb_Y ad σ (eb_A ad σ.1 sz) U U.heap ∧ (∀ w ∈ eb_nst, va_Nw w U) ∧ va_AO RX7 U
def eb_Post (D : va_G) (AC : Nat → ClassId) (ad : Nat → Nat) (σ : eb_S) (r : Option Value) (τ : eb_S) (A : Nat → Prop) : Array Value → State → Outcome → State → Prop := fun _ st oc t =>
  (∃ ad1, eb_ex ad ad1 σ.1 τ.1 ∧ oc = .returned (r.map (eb_mv ad1)) ∧ va_P D eb_cl (eb_wl AC ad1 τ) t.heap ∧ va_D A (eb_wl AC ad1 τ) ∧ eb_wf τ) ∧ va_F A st t
def eb_rm (d mc ms : Nat) : Room := { frames := d, cells := mc, slots := ms, locals := 40 * d }
/-- THE CONTRACT: the method M, called with these arguments on the memory σ, answers r and leaves τ; d: how many frames it needs at most -/
def eb_E (M : eb_M) (d : Nat) (as : List Value) (σ : eb_S) (r : Option Value) (τ : eb_S) : Prop :=
  eb_mo σ τ ∧ ∀ (l0 : Launch), l0.stackTraces = false → ∀ (D : va_G) (AC : Nat → ClassId) (ad : Nat → Nat) (sz : Nat), Met l0 M.1 (Cond.code M.1 M.2.1 M.2.2.1 M.2.2.2 :: eb_tbl) (eb_rm d (τ.2.1.1 - σ.2.1.1) (τ.2.1.2 - σ.2.1.2)) (va_Pc (as.map (eb_mv ad)) (eb_Pre D AC ad σ sz)) (eb_Post D AC ad σ r τ (eb_A ad σ.1 sz)) (τ.2.1.1 - σ.2.1.1) (τ.2.1.2 - σ.2.1.2) (eb_A ad σ.1 sz)
theorem eb_sl_map (ad : Nat → Nat) : ∀ as : List Value, (lg_sl (as.map (eb_mv ad))).length = (lg_sl as).length
  | [] => rfl
  | v :: t => by
    have ih := eb_sl_map ad t
    simp only [lg_sl, List.map_cons, List.flatMap_cons, List.length_append, eb_mv_cat] at ih ⊢
    rw [ih]
    split <;> rfl
theorem eb_args_map (ad : Nat → Nat) : ∀ (as : List Value) (i : Nat), lv_args i (as.map (eb_mv ad)) = (lv_args i as).map (fun q => (q.1, eb_mv ad q.2))
  | [], _ => rfl
  | v :: t, i => by
    simp only [List.map_cons, lv_args, eb_mv_cat]
    rw [eb_args_map ad t]
theorem eb_wl_D {AC : Nat → ClassId} {ad : Nat → Nat} {σ : eb_S} {sz : Nat} (h : va_D (fun _ => True) (eb_wl AC ad σ)) : va_D (eb_A ad σ.1 sz) (eb_wl AC ad σ) := by
  refine ⟨h.1, fun k q hk => ?_⟩
  have hlt : k < σ.1 := by
    have := (List.getElem?_eq_some_iff.mp hk).1
    simpa [eb_wl] using this
  rw [eb_wl_at hlt] at hk
  cases hk
  exact Or.inl ⟨k, hlt, rfl⟩
set_option maxHeartbeats 1000000 in
theorem eb_meth {M : eb_M} {d : Nat} {as : List Value} {σ : eb_S} {r : Option Value} {τ : eb_S} (hy : plainName M.1.cls = true) (hlen : (lg_sl as).length ≤ M.2.2.1) (k : eb_V M d 0 (lv_args 0 as) [] σ r τ) : eb_E M d as σ r τ := by
  refine ⟨k.1, fun l0 hfl D AC ad sz => ?_⟩
  refine Met.ofW (cc := M.2.1) (maxL := M.2.2.1) (ret := M.2.2.2) hy rfl ?_
  intro p e s m args below meth c s₁ B hml hv
  obtain ⟨rfl, hsz, hP, hK, hD, hwf, hY, hN, hO⟩ := hv
  have hts := atoms_spec (ws := Cond.code M.1 M.2.1 M.2.2.1 M.2.2.2 :: eb_tbl) B.pre
  have hown : s.vm.findClass M.1.cls = some m.cls := findClass_of_methodNamed B.named
  have hnm : meth.name = M.1.name := (name_of_methodNamed B.named B.method).1
  have hlocks := B.notSynchronized
  subst hsz
  have hl := lv_entry (as.map (eb_mv ad)) (n := M.2.2.1) (by rw [eb_sl_map]; exact hlen)
  rw [lg_entry_eq]
  generalize (lg_sl (as.map (eb_mv ad)) ++ List.replicate (M.2.2.1 - (lg_sl (as.map (eb_mv ad))).length) Slot.unset).toArray = ls at hl ⊢
  rw [eb_args_map] at hl
  refine k.2 p l0 e _ s m _ below meth c _ s.heap [] 0 0 D AC (eb_A ad σ.1 s.heap.size) ad ls ⟨B.exec, B.bytes, hml, hown, fun w hw => hts w (List.mem_cons_of_mem _ hw), hK, fun q h => Or.inr h, Nat.le_refl _, Nat.le_refl _, hnm, hN, hO, hfl⟩ hY ⟨hP, eb_wl_D hD, va_S.rf, hwf⟩ hl (by rw [Nat.zero_add]; exact Nat.le_refl _) (by rw [Nat.zero_add]; exact Nat.le_refl _) ?_
  intro H1 locs1 ad1 ls1 pc1 hex hW1 hret
  rw [Nat.zero_add, Nat.zero_add]
  have hend : ∀ v : Option Value, v = r.map (eb_mv ad1) → ∀ t : State, t.heap = H1 → s.WarmedH t.vm → eb_Post D AC ad σ r τ (eb_A ad σ.1 s.heap.size) (as.map (eb_mv ad)).toArray s (.returned v) t := by
    intro v hv t ht hWm
    exact ⟨⟨ad1, hex, by rw [hv], by rw [ht]; exact hW1.1, hW1.2.1, hW1.2.2.2⟩, hW1.2.2.1.F ht⟩
  match r, hret, hend with
  | none, hret, hend => exact W.vret B.exec B.bytes (B.returns.trans hret.2) (hend none rfl) hW1.2.2.1.2.2 hret.1
  | some (.int x), hret, hend =>
    obtain ⟨hd, ty, ht, hn⟩ := hret
    exact W.zret (v := x) B.exec B.bytes (B.returns.trans ht) hn (hend (some (.int x)) rfl) hW1.2.2.1.2.2 hd
  | some (.long x), hret, hend => exact W.lret (v := x) B.exec B.bytes (B.returns.trans hret.2) (hend (some (.long x)) rfl) hW1.2.2.1.2.2 hret.1
  | some (.ref x), hret, hend =>
    obtain ⟨hd, ty, ht, hn⟩ := hret
    exact W.aret (v := .ref (ad1 x)) B.exec B.bytes (B.returns.trans ht) hn (Or.inr ⟨_, rfl⟩) (hend (some (.ref (ad1 x))) rfl) hW1.2.2.1.2.2 hd
  | some .null, hret, _ => exact False.elim hret
  | some (.float _), hret, _ => exact False.elim hret
  | some (.double _), hret, _ => exact False.elim hret
  | some (.retAddr _), hret, _ => exact False.elim hret
/-- behind a call -/
theorem eb_after {p : Program} {l0 : Launch} {e : Env} {R : Room} {s : State} {m : MethodId} {args : Array Value} {below : List Frame} {meth : Method} {c : Code} {H : Heap} {locs : List Loc} {cells slots mc ms : Nat} {Q : State → Prop} {pc : Nat} {ls : Array Slot} {st0 rest : List Value} {a : Array Value} {A A1 : Nat → Prop} {H0 : Heap} {D : va_G} {AC : Nat → ClassId} {ad : Nat → Nat} {σ τ : eb_S} {r : Option Value}
    (hr : va_Run p l0 e R s m args below meth c H locs cells slots mc ms (F0 m pc ls st0) rest (eb_Post D AC ad σ r τ A1 a) A1) (hS : va_S A H0 H locs) (hA : ∀ q, A1 q → A q)
    (kk : ∀ (ad1 : Nat → Nat) (H1 : Heap) (locs1 : List Loc), eb_ex ad ad1 σ.1 τ.1 → va_P D eb_cl (eb_wl AC ad1 τ) H1 → va_D A1 (eb_wl AC ad1 τ) → eb_wf τ → va_S A H0 H1 locs1 → W p l0 e R s m args below meth c H1 locs1 (cells + mc) (slots + ms) Q (F0 m (pc + 3) ls ((r.map (eb_mv ad1)).toList ++ rest))) : W p l0 e R s m args below meth c H locs cells slots Q (F0 m pc ls st0) := by
  intro T hT X
  obtain ⟨v, st₀, t, T', L, h0, X', hL, e1, e2, ⟨⟨ad1, hex, hv, hP, hD, hwf⟩, hz, hk⟩, st⟩ := hr T hT X
  cases hv
  rw [h0] at hz hk
  obtain ⟨t2, a1, b1⟩ := kk ad1 T'.heap (locs ++ L) hex (by rw [e1]; exact hP) hD hwf
    ⟨Nat.le_trans hS.1 (by rw [e1]; exact hz), fun q h1 h2 => by rw [e1, hk q (Nat.lt_of_lt_of_le h1 hS.1) (fun z => h2 (hA q z))]; exact hS.2.1 q h1 h2, fun q hq => by
      rcases List.mem_append.mp hq with h | h
      · exact hS.2.2 q h
      · exact hA _ (hL q h)⟩ T' rfl X'
  exact ⟨t2, st t2 a1, b1⟩
def eb_ML (own : String) (idx : Nat) (y : MethodName) : Prop := Cond.methodLink own idx y ∈ eb_tbl ∨ ∃ host, Cond.methodLinkNest own idx y host ∈ eb_nst
def eb_MC (M : eb_M) (n : Nat) : Prop := Cond.code M.1 M.2.1 M.2.2.1 M.2.2.2 ∈ eb_tbl ∧ Cond.initialized M.1.cls ∈ eb_tbl ∧ (M.1.cls ≠ "java/lang/invoke/MethodHandle" ∧ M.1.cls ≠ "java/lang/invoke/VarHandle" ∧ (parseMethodDescriptor M.1.desc).map (fun d => d.parameters.length) = some n) ∧ M.2.2.1 ≤ 21
def eb_okv (n : Nat) (v : Value) : Prop := match v with
  | .ref j => j < n ∨ 1000000 ≤ j
  | _ => True
theorem eb_okv_mv {n n1 : Nat} {ad ad1 : Nat → Nat} (hex : eb_ex ad ad1 n n1) {v : Value} (h : eb_okv n v) : eb_mv ad1 v = eb_mv ad v := by
  cases v with
  | ref j => exact congrArg Value.ref (hex.1 j h)
  | _ => rfl
theorem eb_good : GoodIn eb_tbl eb_tbl := fun w hw => ⟨hw, good_of_word (List.mem_filter.mp hw).2⟩
theorem eb_goodC {M : eb_M} (h : Cond.code M.1 M.2.1 M.2.2.1 M.2.2.2 ∈ eb_tbl) : GoodIn eb_tbl (Cond.code M.1 M.2.1 M.2.2.1 M.2.2.2 :: eb_tbl) := fun w hw => (List.mem_cons.mp hw).elim (fun e => by rw [e]; exact eb_good _ h) (fun h => eb_good w h)
theorem eb_Y_kept {ad : Nat → Nat} {σ : eb_S} {A B : Nat → Prop} {s U : State} {H : Heap} {locs : List Loc} (hY : eb_Y ad σ A s s.heap) (hS : va_S A s.heap H locs) (hU : U.heap = H) (hW : s.WarmedH U.vm) (hAB : ∀ q, B q → A q) : eb_Y ad σ B U U.heap := by
  have hk : ∀ a : Nat, a < s.heap.size → ¬ A a → U.heap[a]? = s.heap[a]? := fun a h1 h2 => by rw [hU]; exact hS.2.1 a h1 h2
  obtain ⟨y1, y2, y3, y4, y5, y6, y7, y8⟩ := hY
  exact ⟨((y1.kept hk).moved hW.alike).narrow hAB, fun q hq => (y2 q hq).warm hW, ((y3.kept hk).moved hW.alike).narrow hAB, ((y4.kept hk).moved hW.alike).narrow hAB, fun j hj => (((y5 j hj).kept hk).moved hW.alike).narrow hAB, y6.elim (fun z => Or.inl (((z.kept hk).moved hW.alike).narrow hAB)) (fun z => Or.inr (((z.kept hk).moved hW.alike).narrow hAB)), ((y7.kept hk).moved hW.alike).narrow hAB, ((y8.kept hk).moved hW.alike).narrow hAB⟩
theorem eb_Y_same {ad : Nat → Nat} {σ : eb_S} {A : Nat → Prop} {u U : State} (hv : U.vm = u.vm) (hh : U.heap = u.heap) (hY : eb_Y ad σ A u u.heap) : eb_Y ad σ A U U.heap := by
  obtain ⟨y1, y2, y3, y4, y5, y6, y7, y8⟩ := hY
  have ha : u.vm.Alike U.vm := by rw [hv]; exact Vm.Alike.refl u.vm
  rw [hh]
  exact ⟨y1.moved ha, fun q hq => (y2 q hq).same hv, y3.moved ha, y4.moved ha, fun j hj => (y5 j hj).moved ha, y6.elim (fun z => Or.inl (z.moved ha)) (fun z => Or.inr (z.moved ha)), y7.moved ha, y8.moved ha⟩
theorem eb_nst_warm {s U : State} (hW : s.WarmedH U.vm) (h : ∀ w ∈ eb_nst, va_Nw w s) : ∀ w ∈ eb_nst, va_Nw w U := by
  intro w hw
  have h1 := h w hw
  have h2 := (List.mem_filter.mp hw).2
  cases w <;> first | exact va_Nw.warmF hW h1 | exact va_Nw.warmM hW h1 | (simp [eb_isN] at h2)
theorem eb_nst_on {w : Cond} (hw : w ∈ eb_nst) : w.onTables = true := by
  have h2 := (List.mem_filter.mp hw).2
  cases w <;> first | rfl | (simp [eb_isN] at h2)
theorem eb_blind (as : List Value) (D : va_G) (AC : Nat → ClassId) (ad : Nat → Nat) (σ : eb_S) (sz : Nat) : FrameBlind (va_Pc as (eb_Pre D AC ad σ sz)) := by
  intro a U g mk h
  obtain ⟨h0, h1, h2, h3, h4, h5, h6, h7, h8⟩ := h
  exact ⟨h0, h1, h2, va_K.moved (u := U) (U := U.calling g mk a) (Vm.Alike.refl U.vm) h3, h4, h5, eb_Y_same (u := U) (U := U.calling g mk a) rfl rfl h6, fun w hw => va_Nw.same (eb_nst_on hw) (u := U) (U := U.calling g mk a) rfl (h7 w hw), va_AO.moved (u := U) (U := U.calling g mk a) (Vm.Alike.refl U.vm) h8⟩
/-- what the callee finds -/
theorem eb_pre_of {M : eb_M} {d : Nat} {l0 : Launch} {p : Program} {R : Room} {s : State} {m : MethodId} {args : Array Value} {meth : Method} {c : Code} {D : va_G} {AC : Nat → ClassId} {A : Nat → Prop} {ad : Nat → Nat} {σ : eb_S} {H : Heap} {locs : List Loc} (hC : eb_C M d l0 p R s m args meth c D AC A) (hY : eb_Y ad σ A s s.heap) (hW : eb_Wd D AC A s.heap ad σ H locs) (hsub : ∀ q, eb_A ad σ.1 H.size q → A q) : ∀ U : State, U.heap = H → s.WarmedH U.vm → eb_Pre D AC ad σ H.size U := by
  intro U hU hWm
  exact ⟨by rw [hU], by rw [hU]; exact hW.1, va_K.moved hWm.alike hC.2.2.2.2.2.1, hW.2.1.weaken (fun _ _ _ _ => trivial), hW.2.2.2, eb_Y_kept hY hW.2.2.1 hU hWm hsub, eb_nst_warm hWm hC.2.2.2.2.2.2.2.2.2.2.1, va_AO.moved hWm.alike hC.2.2.2.2.2.2.2.2.2.2.2.1⟩
theorem eb_subA {D : va_G} {AC : Nat → ClassId} {A : Nat → Prop} {H0 : Heap} {ad : Nat → Nat} {σ : eb_S} {H : Heap} {locs : List Loc} (hW : eb_Wd D AC A H0 ad σ H locs) (hA : ∀ q, H0.size ≤ q → A q) : ∀ q, eb_A ad σ.1 H.size q → A q := by
  intro q hq
  rcases hq with ⟨i, hi, rfl⟩ | hq
  · exact hW.2.1.2 i _ (eb_wl_at hi)
  · exact hA q (Nat.le_trans hW.2.2.1.1 hq)
/-- the common part of all calls: hrun gives the machine's step for the callee's contract -/
theorem eb_call {M M1 : eb_M} {d pc : Nat} {l : List (Nat × Value)} {st rest as : List Value} {σ σ1 : eb_S} {r r1 : Option Value} {τ : eb_S} (hE : eb_E M1 d as σ r1 σ1)
    (hrun : ∀ (p : Program) (l0 : Launch) (e : Env) (R : Room) (s : State) (m : MethodId) (args : Array Value) (below : List Frame) (meth : Method) (c : Code) (H : Heap) (locs : List Loc) (cells slots : Nat) (D : va_G) (AC : Nat → ClassId) (A : Nat → Prop) (ad : Nat → Nat) (ls : Array Slot), eb_C M (d + 1) l0 p R s m args meth c D AC A → eb_Y ad σ A s s.heap → eb_Wd D AC A s.heap ad σ H locs → ls.size = M.2.2.1 → cells + (σ1.2.1.1 - σ.2.1.1) ≤ R.cells ∧ slots + (σ1.2.1.2 - σ.2.1.2) ≤ R.slots → (∀ q, eb_A ad σ.1 H.size q → A q) →
      va_Run p l0 e R s m args below meth c H locs cells slots (σ1.2.1.1 - σ.2.1.1) (σ1.2.1.2 - σ.2.1.2) (F0 m pc ls (st.map (eb_mv ad))) (rest.map (eb_mv ad)) (eb_Post D AC ad σ r1 σ1 (eb_A ad σ.1 H.size) (as.map (eb_mv ad)).toArray) (eb_A ad σ.1 H.size))
    (hok : σ1.1 = σ.1 ∨ ((∀ q ∈ l, eb_okv σ.1 q.2) ∧ ∀ v ∈ rest, eb_okv σ.1 v)) (kk : eb_V M (d + 1) (pc + 3) l (r1.toList ++ rest) σ1 r τ) : eb_V M (d + 1) pc l st σ r τ := by
  refine ⟨hE.1.tr kk.1, fun p l0 e R s m args below meth c Q H locs cells slots D AC A ad ls hC hY hW hl h1 h2 K => ?_⟩
  obtain ⟨m1, ⟨m2, m2'⟩, m3⟩ := hE.1
  obtain ⟨n1, ⟨n2, n2'⟩, n3⟩ := kk.1
  have hsub := eb_subA hW hC.2.2.2.2.2.2.1
  refine eb_after (hrun p l0 e R s m args below meth c H locs cells slots D AC A ad ls hC hY hW hl.1 ⟨by omega, by omega⟩ hsub) hW.2.2.1 hsub ?_
  intro ad1 H1 locs1 hex hP1 hD1 hwf1 hS1
  have hmv : (l.map (fun q => (q.1, eb_mv ad1 q.2)) = l.map (fun q => (q.1, eb_mv ad q.2))) ∧ rest.map (eb_mv ad1) = rest.map (eb_mv ad) := by
    rcases hok with h | ⟨g1, g2⟩
    · rw [hex.2 h]; exact ⟨rfl, rfl⟩
    · exact ⟨List.map_congr_left (fun q hq => by rw [eb_okv_mv hex (g1 q hq)]), List.map_congr_left (fun v hv => eb_okv_mv hex (g2 v hv))⟩
  have hst : (r1.map (eb_mv ad1)).toList ++ rest.map (eb_mv ad) = (r1.toList ++ rest).map (eb_mv ad1) := by
    rw [List.map_append, hmv.2]
    cases r1 <;> rfl
  rw [hst]
  have hY1 : eb_Y ad1 σ1 A s s.heap := by
    obtain ⟨y1, y2, y3, y4, y5, y6, y7, y8⟩ := hY
    have ea : ∀ j, 1000000 ≤ j → ad1 j = ad j := fun j hj => hex.1 j (Or.inr hj)
    refine ⟨?_, ?_, ?_, y4, ?_, by rw [ea _ (by omega)]; exact y6, y7, y8⟩
    · rw [show (fun i => ad1 (1000000 + i)) = fun i => ad (1000000 + i) from funext fun i => ea _ (Nat.le_add_right _ _), show (fun i => ad1 (1000020 + i)) = fun i => ad (1000020 + i) from funext fun i => ea _ (by omega)]
      exact y1
    · intro q hq
      rw [ea _ (Nat.le_add_right _ _)]
      exact y2 q hq
    · rw [ea _ (by omega)]
      exact y3
    · intro j hj
      rw [ea _ (by omega), (m3 j (by omega)).1, (m3 j (by omega)).2]
      exact y5 j hj
  refine kk.2 p l0 e R s m args below meth c Q H1 locs1 _ _ D AC A ad1 ls hC hY1 ⟨hP1, hD1.weaken (fun k q _ h => hsub q.1 h), hS1, hwf1⟩ (by rw [hmv.1]; exact hl) (by omega) (by omega) ?_
  intro H2 locs2 ad2 ls2 pc2 hex2 hW2 hret
  rw [show cells + (σ1.2.1.1 - σ.2.1.1) + (τ.2.1.1 - σ1.2.1.1) = cells + (τ.2.1.1 - σ.2.1.1) by omega, show slots + (σ1.2.1.2 - σ.2.1.2) + (τ.2.1.2 - σ1.2.1.2) = slots + (τ.2.1.2 - σ.2.1.2) by omega]
  refine K H2 locs2 ad2 ls2 pc2 ⟨fun i hi => ?_, fun h => ?_⟩ hW2 hret
  · exact (hex2.1 i (hi.elim (fun h => Or.inl (by omega)) Or.inr)).trans (hex.1 i hi)
  · exact (hex2.2 (by omega)).trans (hex.2 (by omega))
