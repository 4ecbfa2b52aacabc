/-! ROWS of the layer: constructors, cells that are made, what lies outside, Math -/
section EBN
variable {M M1 : eb_M} {d pc : Nat} {l : List (Nat × Value)} {st rest as : List Value} {σ σ1 : eb_S} {r r1 : Option Value} {τ : eb_S} {idx i c : Nat} {n : Nat} {sl : Nat × Nat} {kd : Nat → Nat × Nat} {I : Nat → Nat → Int32} {L : Nat → Nat → Int64} {Rf : Nat → Nat → Option Nat}
/-- a constructor -/
theorem eb_callI {nn : Nat} (hE : eb_E M1 d (.ref i :: as) σ r1 σ1) (hd : decode M.2.1 pc = .ok (.invokespecial idx, 3)) (hL : eb_ML M.1.cls idx M1.1) (hM : eb_MI M1 nn) (hn : as.length = nn) (hrest : (rest.map fun v => v.category).sum ≤ 8) (hst : as.reverse ++ .ref i :: rest = st)
    (hok : σ1.1 = σ.1 ∨ ((∀ q ∈ l, eb_okv σ.1 q.2) ∧ ∀ v ∈ rest, eb_okv σ.1 v)) (kk : eb_V M (d + 1) (pc + 3) l (r1.toList ++ rest) σ1 r τ) : eb_V M (d + 1) pc l st σ r τ := by
  refine eb_call hE ?_ hok kk
  intro p l0 e R s m args below meth c0 H locs cells slots D AC A ad ls hC hY hW hsz hroom hsub
  obtain ⟨⟨mc1, mc2, mc3, mc4⟩, mi1, mi2, mi3⟩ := hM
  have hpre := eb_pre_of hC hY hW hsub
  obtain ⟨cx, cb, cm, co, ct, cK, cA, cf, cl, cn, cN, cO, cT⟩ := hC
  have hR := eb_rmR (mc := σ1.2.1.1 - σ.2.1.1) (ms := σ1.2.1.2 - σ.2.1.2) cf cl mc4
  subst hst
  have hs : (as.reverse ++ .ref i :: rest).map (eb_mv ad) = (as.map (eb_mv ad)).reverse ++ .ref (ad i) :: rest.map (eb_mv ad) := by
    rw [List.map_append, List.map_reverse]; rfl
  rw [mi3] at mc1
  have hE2 := hE.2 l0 cT D AC ad H.size
  rw [mi3] at hE2
  have hG : GoodIn eb_tbl (Cond.code M1.1 M1.2.1 M1.2.2.1 none :: eb_tbl) := fun w hw => (List.mem_cons.mp hw).elim (fun e => by rw [e]; exact eb_good _ mc1) (fun h => eb_good w h)
  rcases hL with hL | ⟨host, hL⟩
  · exact va_runI (As := as.map (eb_mv ad)) ⟨cx, cb, cm, co, ct⟩ hE2 ⟨callB_of nn ct hG rfl rfl rfl (ct _ mc2) (ct _ hL) mc3 hR, mi2, ct _ mi1⟩ ⟨eb_blind _ D AC ad σ H.size, fun U hU hWm => ⟨rfl, hpre U hU hWm⟩⟩ rfl (by rw [List.length_map]; exact hn) hsz hs (eb_mon hrest) hd hroom
  · exact va_runIN (As := as.map (eb_mv ad)) ⟨cx, cb, cm, co, ct⟩ hE2 ⟨va_cnB nn ct hG rfl rfl rfl (cN _ hL) (ct _ mc2) mc3 hR, mi2, ct _ mi1⟩ ⟨eb_blind _ D AC ad σ H.size, fun U hU hWm => ⟨rfl, hpre U hU hWm⟩⟩ rfl (by rw [List.length_map]; exact hn) hsz hs (eb_mon hrest) hd hroom
theorem eb_obj : Cond.code Lib.objectInit ⟨#[0xb1]⟩ 1 none ∈ eb_tbl ∧ Cond.instanceMethod Lib.objectInit ∈ eb_tbl := ⟨eb_mem 127 (by decide +kernel) rfl, eb_mem 126 (by decide +kernel) rfl⟩
/-- Object's own constructor -/
theorem eb_objI (hd : decode M.2.1 pc = .ok (.invokespecial idx, 3)) (hL : Cond.methodLink M.1.cls idx Lib.objectInit ∈ eb_tbl) (hrest : (rest.map fun v => v.category).sum ≤ 8) (kk : eb_V M (d + 1) (pc + 3) l rest σ r τ) : eb_V M (d + 1) pc l (.ref i :: rest) σ r τ := by
  refine ⟨kk.1, fun p l0 e R s m args below meth c0 Q H locs cells slots D AC A ad ls hC hY hW hl h1 h2 K => ?_⟩
  have k2 := kk.2 p l0 e R s m args below meth c0 Q H locs cells slots D AC A ad ls hC hY hW hl h1 h2 K
  obtain ⟨cx, cb, cm, co, ct, cK, cA, cf, cl, cn, cN, cO, cT⟩ := hC
  have h8 := eb_mon (m := m) (pc := pc) (ls := ls) (st := (Value.ref i :: rest).map (eb_mv ad)) (ad := ad) hrest
  exact W.objInit cx cb co (ct _ hL) (ct _ eb_obj.2) (ct _ eb_obj.1) rfl (by rw [cm]; exact hl.1) rfl hd (by omega) (Nat.le_trans (Nat.add_le_add_right h8 12) (by omega)) k2
/-- the default values of a class -/
theorem eb_wl_push {AC : Nat → ClassId} {ad : Nat → Nat} {q : Nat} {e0 : va_E} {k0 : Nat × Nat} (hwf : eb_wf (n, sl, kd, I, L, Rf)) (hX : n < 1000000) (sl1 : Nat × Nat)
    (he : eb_ent AC (va_up ad n q) (n + 1, sl1, va_up kd n k0, va_up I n (fun _ => 0), va_up L n (fun _ => 0), va_up Rf n (fun _ => none)) n = e0) :
    eb_wl AC ad (n, sl, kd, I, L, Rf) ++ [(q, e0)] = eb_wl AC (va_up ad n q) (n + 1, sl1, va_up kd n k0, va_up I n (fun _ => 0), va_up L n (fun _ => 0), va_up Rf n (fun _ => none)) := by
  unfold eb_wl
  rw [List.range_succ, List.map_append]
  congr 1
  · refine List.map_congr_left (fun j hj => ?_)
    have hj : j < n := List.mem_range.mp hj
    have hne : j ≠ n := Nat.ne_of_lt hj
    have ea : va_up ad n q j = ad j := if_neg hne
    have hR : ∀ k, (Rf j k).map (va_up ad n q) = (Rf j k).map ad := by
      intro k
      cases hjk : Rf j k with
      | none => rfl
      | some z =>
        have hz : z < n ∨ 1000000 ≤ z := hwf j k z hjk
        exact congrArg some (if_neg (by omega))
    have e1 : eb_ent AC (va_up ad n q) (n, sl, kd, I, L, Rf) j = eb_ent AC ad (n, sl, kd, I, L, Rf) j := by
      have hf : ∀ c k, eb_fv (va_up ad n q) (n, sl, kd, I, L, Rf) j c k = eb_fv ad (n, sl, kd, I, L, Rf) j c k := fun c k => by
        unfold eb_fv
        rw [show ((n, sl, kd, I, L, Rf) : eb_S).2.2.2.2.2 j k = Rf j k from rfl, hR k]
      unfold eb_ent
      rw [show eb_fv (va_up ad n q) (n, sl, kd, I, L, Rf) j = eb_fv ad (n, sl, kd, I, L, Rf) j from funext fun c => funext fun k => hf c k]
      rw [show (fun k => (((n, sl, kd, I, L, Rf) : eb_S).2.2.2.2.2 j k).map (va_up ad n q)) = fun k => (((n, sl, kd, I, L, Rf) : eb_S).2.2.2.2.2 j k).map ad from funext hR]
    have e2 : eb_ent AC (va_up ad n q) (n + 1, sl1, va_up kd n k0, va_up I n (fun _ => 0), va_up L n (fun _ => 0), va_up Rf n (fun _ => none)) j = eb_ent AC (va_up ad n q) (n, sl, kd, I, L, Rf) j := eb_ent_congr (if_neg hne) (if_neg hne) (if_neg hne) (if_neg hne)
    rw [ea, e2, e1]
  · show [(q, e0)] = [(va_up ad n q n, eb_ent AC (va_up ad n q) _ n)]
    rw [he, show va_up ad n q n = q from if_pos rfl]
theorem eb_wf_push {k0 : Nat × Nat} {sl1 : Nat × Nat} (hwf : eb_wf (n, sl, kd, I, L, Rf)) : eb_wf (n + 1, sl1, va_up kd n k0, va_up I n (fun _ => 0), va_up L n (fun _ => 0), va_up Rf n (fun _ => none)) := by
  intro a b z hz
  have hz2 : va_up Rf n (fun _ => none) a b = some z := hz
  show z < n + 1 ∨ _
  by_cases ha : a = n
  · subst ha
    rw [show va_up Rf a (fun _ => none) a = fun _ => none from if_pos rfl] at hz2
    cases hz2
  · rw [show va_up Rf n (fun _ => none) a = Rf a from if_neg ha] at hz2
    have : z < n ∨ 1000000 ≤ z := hwf a b z hz2
    omega
theorem eb_Y_push {ad : Nat → Nat} {A : Nat → Prop} {U : State} {H : Heap} {k0 : Nat × Nat} {sl1 : Nat × Nat} {q : Nat} (hX : n < 1000000) (hY : eb_Y ad (n, sl, kd, I, L, Rf) A U H) : eb_Y (va_up ad n q) (n + 1, sl1, va_up kd n k0, va_up I n (fun _ => 0), va_up L n (fun _ => 0), va_up Rf n (fun _ => none)) A U H := by
  obtain ⟨y1, y2, y3, y4, y5, y6, y7, y8⟩ := hY
  have ea : ∀ j, 1000000 ≤ j → va_up ad n q j = ad j := fun j hj => if_neg (by omega)
  refine ⟨?_, ?_, ?_, y4, ?_, by rw [ea _ (by omega)]; exact y6, y7, y8⟩
  · rw [show (fun i => va_up ad n q (1000000 + i)) = fun i => ad (1000000 + i) from funext fun i => ea _ (Nat.le_add_right _ _), show (fun i => va_up ad n q (1000020 + i)) = fun i => ad (1000020 + i) from funext fun i => ea _ (by omega)]
    exact y1
  · intro z hz
    rw [ea _ (Nat.le_add_right _ _)]
    exact y2 z hz
  · rw [ea _ (by omega)]
    exact y3
  · intro j hj
    have e1 : va_up kd n k0 j = kd j := if_neg (by omega)
    have e2 : va_up I n (fun _ => 0) j = I j := if_neg (by omega)
    have y := y5 j hj
    rw [ea _ (by omega)]
    simpa only [e1, e2] using y
theorem eb_mo_push {k0 : Nat × Nat} {sl1 : Nat × Nat} (hX : n < 1000000) (hs : sl.1 ≤ sl1.1 ∧ sl.2 ≤ sl1.2) (h : eb_mo (n + 1, sl1, va_up kd n k0, va_up I n (fun _ => 0), va_up L n (fun _ => 0), va_up Rf n (fun _ => none)) τ) : eb_mo (n, sl, kd, I, L, Rf) τ :=
  ⟨Nat.le_of_succ_le h.1, ⟨Nat.le_trans hs.1 h.2.1.1, Nat.le_trans hs.2 h.2.1.2⟩, fun j hj => ⟨(h.2.2 j hj).1.trans (if_neg (by omega)), (h.2.2 j hj).2.trans (if_neg (by omega))⟩⟩
/-- a new cell: the common part -/
theorem eb_made {pc2 : Nat} {k0 : Nat × Nat} {N : Nat} {st2 : List Value} (hX : n < 1000000) (hok : (∀ q ∈ l, eb_okv n q.2) ∧ ∀ v ∈ st2, eb_okv n v)
    (hm : ∀ (p : Program) (l0 : Launch) (e : Env) (R : Room) (s : State) (m : MethodId) (args : Array Value) (below : List Frame) (meth : Method) (c : Code) (Q : State → Prop) (H : Heap) (locs : List Loc) (cells slots : Nat) (D : va_G) (AC : Nat → ClassId) (A : Nat → Prop) (ad : Nat → Nat) (ls : Array Slot), eb_C M d l0 p R s m args meth c D AC A → eb_Wd D AC A s.heap ad (n, sl, kd, I, L, Rf) H locs → cells + 1 ≤ R.cells → slots + N ≤ R.slots →
      (∀ (q : Nat) (H1 : Heap), va_P D eb_cl (eb_wl AC (va_up ad n q) (n + 1, (sl.1 + 1, sl.2 + N), va_up kd n k0, va_up I n (fun _ => 0), va_up L n (fun _ => 0), va_up Rf n (fun _ => none))) H1 → va_D A (eb_wl AC (va_up ad n q) (n + 1, (sl.1 + 1, sl.2 + N), va_up kd n k0, va_up I n (fun _ => 0), va_up L n (fun _ => 0), va_up Rf n (fun _ => none))) → va_S A s.heap H1 locs → W p l0 e R s m args below meth c H1 locs (cells + 1) (slots + N) Q (F0 m pc2 ls (.ref q :: st2.map (eb_mv ad)))) → W p l0 e R s m args below meth c H locs cells slots Q (F0 m pc ls (st.map (eb_mv ad))))
    (kk : eb_V M d pc2 l (.ref n :: st2) (n + 1, (sl.1 + 1, sl.2 + N), va_up kd n k0, va_up I n (fun _ => 0), va_up L n (fun _ => 0), va_up Rf n (fun _ => none)) r τ) : eb_V M d pc l st (n, sl, kd, I, L, Rf) r τ := by
  refine ⟨eb_mo_push hX ⟨Nat.le_add_right _ _, Nat.le_add_right _ _⟩ kk.1, fun p l0 e R s m args below meth c0 Q H locs cells slots D AC A ad ls hC hY hW hl h1 h2 K => ?_⟩
  have q1 : n + 1 ≤ τ.1 := kk.1.1
  have q2 : sl.1 + 1 ≤ τ.2.1.1 := kk.1.2.1.1
  have q3 : sl.2 + N ≤ τ.2.1.2 := kk.1.2.1.2
  have h1 : cells + (τ.2.1.1 - sl.1) ≤ R.cells := h1
  have h2 : slots + (τ.2.1.2 - sl.2) ≤ R.slots := h2
  refine hm p l0 e R s m args below meth c0 Q H locs cells slots D AC A ad ls hC hW (by omega) (by omega) (fun q H1 hP1 hD1 hS1 => ?_)
  have hex : eb_ex ad (va_up ad n q) n (n + 1) := ⟨fun i hi => if_neg (by omega), fun h => by omega⟩
  have e1 : l.map (fun x => (x.1, eb_mv (va_up ad n q) x.2)) = l.map (fun x => (x.1, eb_mv ad x.2)) := List.map_congr_left (fun x hx => by rw [eb_okv_mv hex (hok.1 x hx)])
  have e2 : (.ref n :: st2).map (eb_mv (va_up ad n q)) = .ref q :: st2.map (eb_mv ad) := by
    rw [List.map_cons, List.map_congr_left (fun v hv => eb_okv_mv hex (hok.2 v hv))]
    show Value.ref (va_up ad n q n) :: _ = _
    rw [show va_up ad n q n = q from if_pos rfl]
  have k2 := kk.2 p l0 e R s m args below meth c0 Q H1 locs (cells + 1) (slots + N) D AC A (va_up ad n q) ls hC (eb_Y_push hX hY) ⟨hP1, hD1, hS1, eb_wf_push hW.2.2.2⟩ (by rw [e1]; exact hl) (by show cells + 1 + (τ.2.1.1 - (sl.1 + 1)) ≤ R.cells; omega) (by show slots + N + (τ.2.1.2 - (sl.2 + N)) ≤ R.slots; omega)
  rw [e2] at k2
  refine k2 ?_
  intro H2 locs2 ad2 ls2 pc2 hex2 hW2 hret
  have hex2 : eb_ex (va_up ad n q) ad2 (n + 1) τ.1 := hex2
  have K2 := K H2 locs2 ad2 ls2 pc2 ⟨fun i hi => (hex2.1 i (hi.elim (fun h => Or.inl (Nat.lt_succ_of_lt h)) Or.inr)).trans (if_neg (by have hi : i < n ∨ 1000000 ≤ i := hi; omega)), fun h => by have h : τ.1 = n := h; omega⟩ hW2 hret
  rw [show cells + 1 + (τ.2.1.1 - (n + 1, (sl.1 + 1, sl.2 + N), va_up kd n k0, va_up I n (fun _ => 0), va_up L n (fun _ => 0), va_up Rf n (fun _ => none)).2.1.1) = cells + (τ.2.1.1 - sl.1) by show cells + 1 + (τ.2.1.1 - (sl.1 + 1)) = _; omega, show slots + N + (τ.2.1.2 - (n + 1, (sl.1 + 1, sl.2 + N), va_up kd n k0, va_up I n (fun _ => 0), va_up L n (fun _ => 0), va_up Rf n (fun _ => none)).2.1.2) = slots + (τ.2.1.2 - sl.2) by show slots + N + (τ.2.1.2 - (sl.2 + N)) = _; omega]
  exact K2
theorem eb_clash {D : va_G} {AC : Nat → ClassId} {s : State} {cA : ClassId} {k : Nat} {ty : FieldType} (h : (eb_tys AC)[k]? = some (AC k, ty)) (hno : ∀ C, ty ≠ .object C) (hK : va_K D eb_cl (eb_tys AC ++ [(cA, ty)]) s) : cA = AC k := by
  have h1 := (hK.2 k (AC k, ty) (by rw [List.getElem?_append_left (List.getElem?_eq_some_iff.mp h).1]; exact h)).2
  have h2 := (hK.2 5 (cA, ty) rfl).2
  cases ty with
  | object C => exact absurd rfl (hno C)
  | _ => exact Option.some.inj (h2.symm.trans h1)
/-- a new array: of ints, bytes, booleans -/
theorem eb_newa {at0 : ArrayType} {ty : FieldType} {x : Int32} {N t : Nat} (hd : decode M.2.1 pc = .ok (.newarray at0, 2)) (hty : newarray.typeOf at0 = ty) (hw : Cond.arrayClass ty ∈ eb_tbl) (hT : (t = 0 ∧ ty = .int) ∨ (t = 1 ∧ ty = .byte) ∨ (t = 2 ∧ ty = .boolean) ∨ (t = 3 ∧ ty = .long)) (hx : ¬ x < 0) (hN : x.toNatClampNeg = N) (hb : N * componentBytes ty ≤ 536870912) (hX : n < 1000000) (hok : (∀ q ∈ l, eb_okv n q.2) ∧ ∀ v ∈ st, eb_okv n v)
    (kk : eb_V M d (pc + 2) l (.ref n :: st) (n + 1, (sl.1 + 1, sl.2 + N), va_up kd n (20 + t, N), va_up I n (fun _ => 0), va_up L n (fun _ => 0), va_up Rf n (fun _ => none)) r τ) : eb_V M d pc l (.int x :: st) (n, sl, kd, I, L, Rf) r τ := by
  refine eb_made hX hok ?_ kk
  intro p l0 e R s m args below meth c0 Q H locs cells slots D AC A ad ls hC hW h1 h2 K
  obtain ⟨cx, cb, cm, co, ct, cK, cA, cf, cl, cn, cN, cO, cT⟩ := hC
  rcases hT with ⟨rfl, rfl⟩ | ⟨rfl, rfl⟩ | ⟨rfl, rfl⟩ | ⟨rfl, rfl⟩
  · refine va_newa (ty := .int) (a0 := (N, .inl fun _ => 0)) cx cb (by rw [hty]; exact ct _ hw) hty cK hW.1 hW.2.1 hW.2.2.1 cA (fun _ => rfl) hx hN hb h1 h2 hd (fun q cA2 H1 k1 k2 k3 k4 => ?_)
    have := eb_clash (k := 0) rfl (fun C => by simp) k1
    subst this
    have hp := eb_wl_push (AC := AC) (ad := ad) (q := q) (k0 := (20, N)) hW.2.2.2 hX ((sl.1 + 1, sl.2 + N)) (eb_ent_arr 0 (by decide) (if_pos rfl))
    rw [show (n + 1, (sl.1 + 1, sl.2 + N), va_up kd n (20, N), va_up I n (fun _ => 0), va_up L n (fun _ => 0), va_up Rf n (fun _ => none)).2.2.2.1 n = fun _ => 0 from if_pos rfl] at hp
    exact K q H1 (by rw [← hp]; exact k2) (by rw [← hp]; exact k3) k4
  · refine va_newa (ty := .byte) (a0 := (N, .inl fun _ => 0)) cx cb (by rw [hty]; exact ct _ hw) hty cK hW.1 hW.2.1 hW.2.2.1 cA (fun _ => rfl) hx hN hb h1 h2 hd (fun q cA2 H1 k1 k2 k3 k4 => ?_)
    have := eb_clash (k := 1) rfl (fun C => by simp) k1
    subst this
    have hp := eb_wl_push (AC := AC) (ad := ad) (q := q) (k0 := (21, N)) hW.2.2.2 hX ((sl.1 + 1, sl.2 + N)) (eb_ent_arr 1 (by decide) (if_pos rfl))
    rw [show (n + 1, (sl.1 + 1, sl.2 + N), va_up kd n (21, N), va_up I n (fun _ => 0), va_up L n (fun _ => 0), va_up Rf n (fun _ => none)).2.2.2.1 n = fun _ => 0 from if_pos rfl] at hp
    exact K q H1 (by rw [← hp]; exact k2) (by rw [← hp]; exact k3) k4
  · refine va_newa (ty := .boolean) (a0 := (N, .inl fun _ => 0)) cx cb (by rw [hty]; exact ct _ hw) hty cK hW.1 hW.2.1 hW.2.2.1 cA (fun _ => rfl) hx hN hb h1 h2 hd (fun q cA2 H1 k1 k2 k3 k4 => ?_)
    have := eb_clash (k := 2) rfl (fun C => by simp) k1
    subst this
    have hp := eb_wl_push (AC := AC) (ad := ad) (q := q) (k0 := (22, N)) hW.2.2.2 hX ((sl.1 + 1, sl.2 + N)) (eb_ent_arr 2 (by decide) (if_pos rfl))
    rw [show (n + 1, (sl.1 + 1, sl.2 + N), va_up kd n (22, N), va_up I n (fun _ => 0), va_up L n (fun _ => 0), va_up Rf n (fun _ => none)).2.2.2.1 n = fun _ => 0 from if_pos rfl] at hp
    exact K q H1 (by rw [← hp]; exact k2) (by rw [← hp]; exact k3) k4
  · refine va_newa (ty := .long) (a0 := (N, .inr (.inl fun _ => 0))) cx cb (by rw [hty]; exact ct _ hw) hty cK hW.1 hW.2.1 hW.2.2.1 cA (fun _ => rfl) hx hN hb h1 h2 hd (fun q cA2 H1 k1 k2 k3 k4 => ?_)
    have := eb_clash (k := 3) rfl (fun C => by simp) k1
    subst this
    have hp := eb_wl_push (AC := AC) (ad := ad) (q := q) (k0 := (23, N)) hW.2.2.2 hX ((sl.1 + 1, sl.2 + N)) (eb_ent_larr (if_pos rfl))
    rw [show (n + 1, (sl.1 + 1, sl.2 + N), va_up kd n (23, N), va_up I n (fun _ => 0), va_up L n (fun _ => 0), va_up Rf n (fun _ => none)).2.2.2.2.1 n = fun _ => 0 from if_pos rfl] at hp
    exact K q H1 (by rw [← hp]; exact k2) (by rw [← hp]; exact k3) k4
/-- a new array of Ships -/
theorem eb_newq {x : Int32} {N : Nat} (hd : decode M.2.1 pc = .ok (.anewarray idx, 3)) (hw : Cond.classLink M.1.cls idx RX7 ∈ eb_tbl) (hx : ¬ x < 0) (hN : x.toNatClampNeg = N) (hb : N * 4 ≤ 536870912) (hX : n < 1000000) (hok : (∀ q ∈ l, eb_okv n q.2) ∧ ∀ v ∈ st, eb_okv n v)
    (kk : eb_V M d (pc + 3) l (.ref n :: st) (n + 1, (sl.1 + 1, sl.2 + N), va_up kd n (24, N), va_up I n (fun _ => 0), va_up L n (fun _ => 0), va_up Rf n (fun _ => none)) r τ) : eb_V M d pc l (.int x :: st) (n, sl, kd, I, L, Rf) r τ := by
  refine eb_made hX hok ?_ kk
  intro p l0 e R s m args below meth c0 Q H locs cells slots D AC A ad ls hC hW h1 h2 K
  obtain ⟨cx, cb, cm, co, ct, cK, cA, cf, cl, cn, cN, cO, cT⟩ := hC
  refine va_newq cx cb co (ct _ hw) cO cK hW.1 hW.2.1 hW.2.2.1 cA hx hN hb h1 h2 hd (fun q cA2 H1 k1 k2 k3 k4 => ?_)
  have g1 := (k1.2 4 (AC 4, .object RX7) rfl).2
  have g2 := (k1.2 5 (cA2, .object RX7) rfl).2
  obtain ⟨_, _, _, _, _, g1⟩ := g1
  obtain ⟨_, _, _, _, _, g2⟩ := g2
  have := Option.some.inj (g2.symm.trans g1)
  subst this
  have hp := eb_wl_push (AC := AC) (ad := ad) (q := q) (k0 := (24, N)) hW.2.2.2 hX ((sl.1 + 1, sl.2 + N)) (eb_ent_qarr (if_pos rfl))
  rw [show (fun k => ((n + 1, (sl.1 + 1, sl.2 + N), va_up kd n (24, N), va_up I n (fun _ => 0), va_up L n (fun _ => 0), va_up Rf n (fun _ => none)).2.2.2.2.2 n k).map (va_up ad n q)) = fun _ => none from funext fun k => by simp [va_up]] at hp
  exact K q H1 (by rw [← hp]; exact k2) (by rw [← hp]; exact k3) k4
def eb_NL (own : String) (idx c : Nat) : Prop := ∃ (C : String) (T : u_T) (N : Nat), eb_cl[c]? = some (C, T, N) ∧ (∀ w ∈ u_ws C T N, w ∈ eb_tbl) ∧ eb_nf c = N ∧ c < 20 ∧ (∀ k, k < N → parseFieldDescriptor (T k).2.2.1 = some (eb_ty c k)) ∧ Cond.classLink own idx C ∈ eb_tbl ∧ Cond.instantiable C N ∈ eb_tbl ∧ Cond.initialized C ∈ eb_tbl ∧ ∀ k, k < N → defaultValue (eb_ty c k) = if eb_fk (eb_ty c k) = 2 then .null else if eb_fk (eb_ty c k) = 1 then .long 0 else .int 0
/-- a new object -/
theorem eb_new {N : Nat} (hd : decode M.2.1 pc = .ok (.new idx, 3)) (hF : eb_NL M.1.cls idx c) (hN : eb_nf c = N) (hX : n < 1000000) (hok : (∀ q ∈ l, eb_okv n q.2) ∧ ∀ v ∈ st, eb_okv n v)
    (kk : eb_V M d (pc + 3) l (.ref n :: st) (n + 1, (sl.1 + 1, sl.2 + N), va_up kd n (c, 0), va_up I n (fun _ => 0), va_up L n (fun _ => 0), va_up Rf n (fun _ => none)) r τ) : eb_V M d pc l st (n, sl, kd, I, L, Rf) r τ := by
  refine eb_made hX hok ?_ kk
  intro p l0 e R s m args below meth c0 Q H locs cells slots D AC A ad ls hC hW h1 h2 K
  obtain ⟨C, T, N1, hc, hin, hnf, hc20, hty, w1, w2, w3, hdef⟩ := hF
  have hNN : N1 = N := hnf.symm.trans hN
  subst hNN
  obtain ⟨cx, cb, cm, co, ct, cK, cA, cf, cl, cn, cN, cO, cT⟩ := hC
  refine va_new (ci := c) (fs := (List.range N1).map (fun k => if eb_fk (eb_ty c k) = 2 then .null else if eb_fk (eb_ty c k) = 1 then .long 0 else .int 0)) cx cb ct hin (eb_ty c) hty co (ct _ w1) (ct _ w2) (ct _ w3) cK hW.1 hW.2.1 hW.2.2.1 cA hc (fun j hj => by rw [hdef j hj]; simp [vp_V, hj]) h1 h2 hd (fun q H1 k2 k3 k4 => ?_)
  have hp := eb_wl_push (AC := AC) (ad := ad) (q := q) (k0 := (c, 0)) hW.2.2.2 hX ((sl.1 + 1, sl.2 + N1)) (eb_ent_obj (c := c) (by show (va_up kd n (c, 0) n).1 = c; rw [show va_up kd n (c, 0) n = (c, 0) from if_pos rfl]) hc20)
  rw [hnf, show eb_fv (va_up ad n q) (n + 1, (sl.1 + 1, sl.2 + N1), va_up kd n (c, 0), va_up I n (fun _ => 0), va_up L n (fun _ => 0), va_up Rf n (fun _ => none)) n c = fun k => if eb_fk (eb_ty c k) = 2 then .null else if eb_fk (eb_ty c k) = 1 then .long 0 else .int 0 from funext fun k => by simp [eb_fv, va_up, va_rf]] at hp
  exact K q H1 (by rw [← hp]; exact k2) (by rw [← hp]; exact k3) k4
/-- a row that reads what lies outside -/
theorem eb_out {pc2 : Nat} {st2 : List Value} (h : ∀ (p : Program) (l0 : Launch) (e : Env) (R : Room) (s : State) (m : MethodId) (args : Array Value) (below : List Frame) (meth : Method) (c : Code) (Q : State → Prop) (H : Heap) (locs : List Loc) (cells slots : Nat) (D : va_G) (AC : Nat → ClassId) (A : Nat → Prop) (ad : Nat → Nat) (ls : Array Slot), eb_C M d l0 p R s m args meth c D AC A → eb_Y ad σ A s s.heap → va_S A s.heap H locs → ls.size = M.2.2.1 → W p l0 e R s m args below meth c H locs cells slots Q (F0 m pc2 ls (st2.map (eb_mv ad))) → cells ≤ R.cells → slots ≤ R.slots → W p l0 e R s m args below meth c H locs cells slots Q (F0 m pc ls (st.map (eb_mv ad)))) (k : eb_V M d pc2 l st2 σ r τ) : eb_V M d pc l st σ r τ :=
  ⟨k.1, fun p l0 e R s m args below meth c Q H locs cells slots D AC A ad ls hC hY hW hl h1 h2 K => h p l0 e R s m args below meth c Q H locs cells slots D AC A ad ls hC hY hW.2.2.1 hl.1 (k.2 p l0 e R s m args below meth c Q H locs cells slots D AC A ad ls hC hY hW hl h1 h2 K) (by omega) (by omega)⟩
theorem eb_ldcS {tx : String} (hd : decode M.2.1 pc = .ok (.ldc idx, 2)) (hq : (M.1.cls, idx, tx, i) ∈ eb_strs) (kk : eb_V M d (pc + 2) l (.ref (1000000 + i) :: st) σ r τ) : eb_V M d pc l st σ r τ :=
  eb_out (fun p l0 e R s m args below meth c Q H locs cells slots D AC A ad ls hC hY hS hz w _ _ => va_ldcS hC.1 hC.2.1 hC.2.2.2.1 (hY.2.1 _ hq) hd w) kk
/-- the static row of the greatest numbers that may be heard -/
theorem eb_heard (hd : decode M.2.1 pc = .ok (.getstatic idx, 3)) (hL : Cond.fieldLink M.1.cls idx "ElderBallast" "HEARD_MOST" "[I" ∈ eb_tbl) (kk : eb_V M d (pc + 3) l (.ref 1000050 :: st) σ r τ) : eb_V M d pc l st σ r τ :=
  eb_out (fun p l0 e R s m args below meth c Q H locs cells slots D AC A ad ls hC hY hS hz w _ _ => va_gets hC.1 hC.2.1 hY.2.2.1 hS hC.2.2.2.1 (hC.2.2.2.2.1 _ hL) (fun _ h => h) hd w) kk
theorem eb_compact (hd : decode M.2.1 pc = .ok (.getstatic idx, 3)) (hL : Cond.fieldLink M.1.cls idx "java/lang/String" "COMPACT_STRINGS" "Z" ∈ eb_tbl) (kk : eb_V M d (pc + 3) l (.int 1 :: st) σ r τ) : eb_V M d pc l st σ r τ :=
  eb_out (fun p l0 e R s m args below meth c Q H locs cells slots D AC A ad ls hC hY hS hz w _ _ => va_gets hC.1 hC.2.1 hY.2.2.2.1 hS hC.2.2.2.1 (hC.2.2.2.2.1 _ hL) (fun _ h => h) hd w) kk
/-- the rows of ints that lie outside: 1000050, the script 1000060 -/
theorem eb_xi {j len : Nat} {x : Int32} (hd : decode M.2.1 pc = .ok (.iaload, 1)) (hj : j = 1000050 ∨ j = 1000060) (hl : (σ.2.2.1 j).2 = len) (hin : vp_in x len) (kk : eb_V M d (pc + 1) l (.int (σ.2.2.2.1 j x.toNatClampNeg) :: st) σ r τ) : eb_V M d pc l (.int x :: .ref j :: st) σ r τ :=
  eb_out (fun p l0 e R s m args below meth c Q H locs cells slots D AC A ad ls hC hY hS hz w _ _ => va_ti hC.1 hC.2.1 (hY.2.2.2.2.1 j hj) hS (by rw [hl]; exact hin) rfl hd w) kk
theorem eb_xlen {j : Nat} {v : Int32} (hd : decode M.2.1 pc = .ok (.arraylength, 1)) (hj : j = 1000050 ∨ j = 1000060) (hv : Int32.ofNat (σ.2.2.1 j).2 = v) (kk : eb_V M d (pc + 1) l (.int v :: st) σ r τ) : eb_V M d pc l (.ref j :: st) σ r τ :=
  eb_out (fun p l0 e R s m args below meth c Q H locs cells slots D AC A ad ls hC hY hS hz w _ _ => va_tlen hC.1 hC.2.1 (hY.2.2.2.2.1 j hj) hS hv hd w) kk
/-- a String constant's fields and bytes -/
theorem eb_svalue (hd : decode M.2.1 pc = .ok (.getfield idx, 3)) (hL : Cond.fieldLink M.1.cls idx "java/lang/String" "value" "[B" ∈ eb_tbl) (hi : i < 11) (kk : eb_V M d (pc + 3) l (.ref (1000020 + i) :: st) σ r τ) : eb_V M d pc l (.ref (1000000 + i) :: st) σ r τ :=
  eb_out (fun p l0 e R s m args below meth c Q H locs cells slots D AC A ad ls hC hY hS hz w _ _ => vk_getf hC.1 hC.2.1 (hY.1.1 i hi).2.2.1 hS hC.2.2.2.1 (hC.2.2.2.2.1 _ hL) (fun _ h => h) hd w) kk
theorem eb_scoder (hd : decode M.2.1 pc = .ok (.getfield idx, 3)) (hL : Cond.fieldLink M.1.cls idx "java/lang/String" "coder" "B" ∈ eb_tbl) (hi : i < 11) (kk : eb_V M d (pc + 3) l (.int 0 :: st) σ r τ) : eb_V M d pc l (.ref (1000000 + i) :: st) σ r τ :=
  eb_out (fun p l0 e R s m args below meth c Q H locs cells slots D AC A ad ls hC hY hS hz w _ _ => vk_getf hC.1 hC.2.1 (hY.1.1 i hi).2.1 hS hC.2.2.2.1 (hC.2.2.2.2.1 _ hL) (fun _ h => h) hd w) kk
theorem eb_sbyte {x v : Int32} (hd : decode M.2.1 pc = .ok (.baload, 1)) (hi : i < 11) (hin : vp_in x (eb_len.getD i 0)) (hv : (eb_byt.getD i []).getD x.toNatClampNeg 0 = v) (kk : eb_V M d (pc + 1) l (.int v :: st) σ r τ) : eb_V M d pc l (.int x :: .ref (1000020 + i) :: st) σ r τ :=
  eb_out (fun p l0 e R s m args below meth c Q H locs cells slots D AC A ad ls hC hY hS hz w _ _ => va_tb hC.1 hC.2.1 (hY.1.1 i hi).2.2.2 hS hin (by rw [hv]; rfl) hd w) kk
theorem eb_slen {v : Int32} (hd : decode M.2.1 pc = .ok (.arraylength, 1)) (hi : i < 11) (hv : Int32.ofNat (eb_len.getD i 0) = v) (kk : eb_V M d (pc + 1) l (.int v :: st) σ r τ) : eb_V M d pc l (.ref (1000020 + i) :: st) σ r τ :=
  eb_out (fun p l0 e R s m args below meth c Q H locs cells slots D AC A ad ls hC hY hS hz w _ _ => va_tlen hC.1 hC.2.1 (hY.1.1 i hi).2.2.2 hS hv hd w) kk
/-- the static that charAt's check hands on: null or some cell outside -/
theorem eb_sioobe (hd : decode M.2.1 pc = .ok (.getstatic idx, 3)) (hL : Cond.fieldLink M.1.cls idx "jdk/internal/util/Preconditions" "SIOOBE_FORMATTER" "Ljava/util/function/BiFunction;" ∈ eb_tbl) (k0 : eb_V M d (pc + 3) l (.null :: st) σ r τ) (k1 : eb_V M d (pc + 3) l (.ref 1000070 :: st) σ r τ) : eb_V M d pc l st σ r τ :=
  ⟨k0.1, fun p l0 e R s m args below meth c Q H locs cells slots D AC A ad ls hC hY hW hl h1 h2 K => by
    rcases hY.2.2.2.2.2.1 with z | z
    · exact va_gets hC.1 hC.2.1 z hW.2.2.1 hC.2.2.2.1 (hC.2.2.2.2.1 _ hL) (fun _ h => h) hd (k0.2 p l0 e R s m args below meth c Q H locs cells slots D AC A ad ls hC hY hW hl h1 h2 K)
    · exact va_gets hC.1 hC.2.1 z hW.2.2.1 hC.2.2.2.1 (hC.2.2.2.2.1 _ hL) (fun _ h => h) hd (k1.2 p l0 e R s m args below meth c Q H locs cells slots D AC A ad ls hC hY hW hl h1 h2 K)⟩
end EBN
