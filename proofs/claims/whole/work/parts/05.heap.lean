/-! ROWS of the layer: fields, arrays -/
theorem eb_good_lay (C : String) (T : u_T) (k : Nat) : goodWord (u_lay C T k) = true := by
  unfold u_lay
  split <;> rfl
theorem eb_inT {C : String} {T : u_T} {N : Nat} (h : ∀ w ∈ u_ws C T N, w ∈ lw_tbl) : ∀ w ∈ u_ws C T N, w ∈ eb_tbl := by
  intro w hw
  refine List.mem_filter.mpr ⟨h w hw, ?_⟩
  obtain ⟨k, -, rfl⟩ := List.mem_map.mp hw
  exact eb_good_lay C T k
def eb_FL (own : String) (idx c k fk : Nat) : Prop := ∃ (C : String) (T : u_T) (N : Nat), eb_cl[c]? = some (C, T, N) ∧ (∀ w ∈ u_ws C T N, w ∈ eb_tbl) ∧ k < N ∧ eb_nf c = N ∧ eb_fk (eb_ty c k) = fk ∧ c < 20 ∧ (Cond.fieldLink own idx (T k).1 (T k).2.1 (T k).2.2.1 ∈ eb_tbl ∨ ∃ host, Cond.fieldLinkNest own idx (T k).1 (T k).2.1 (T k).2.2.1 host ∈ eb_nst)
def eb_PL (own : String) (idx c k fk : Nat) (fin : Bool) : Prop := ∃ (C : String) (T : u_T) (N : Nat), eb_cl[c]? = some (C, T, N) ∧ (∀ w ∈ u_ws C T N, w ∈ eb_tbl) ∧ k < N ∧ eb_nf c = N ∧ eb_fk (eb_ty c k) = fk ∧ c < 20 ∧ (Cond.fieldLink own idx (T k).1 (T k).2.1 (T k).2.2.1 ∈ eb_tbl ∨ (fin = false ∧ ∃ host, Cond.fieldLinkNest own idx (T k).1 (T k).2.1 (T k).2.2.1 host ∈ eb_nst)) ∧
  (∀ k, k < N → parseFieldDescriptor (T k).2.2.1 = some (eb_ty c k)) ∧ (∀ a, a < N → ∀ b, b < N → a ≠ b → (T a).2.1 ≠ (T b).2.1) ∧ (T k).2.2.2 = fin ∧ (fin = true → (T k).1 = own)
section EBH
variable {M : eb_M} {d pc : Nat} {l : List (Nat × Value)} {st : List Value} {r : Option Value} {τ : eb_S} {n : Nat} {sl : Nat × Nat} {kd : Nat → Nat × Nat} {I : Nat → Nat → Int32} {L : Nat → Nat → Int64} {Rf : Nat → Nat → Option Nat}
theorem eb_ent_obj {AC : Nat → ClassId} {ad : Nat → Nat} {σ : eb_S} {i c : Nat} (hk : (σ.2.2.1 i).1 = c) (hc : c < 20) : eb_ent AC ad σ i = .inr (c, (List.range (eb_nf c)).map (eb_fv ad σ i c)) := by
  unfold eb_ent
  rw [hk, if_pos hc]
theorem eb_ent_arr {AC : Nat → ClassId} {ad : Nat → Nat} {σ : eb_S} {i len : Nat} (t : Nat) (ht : t < 3) (hk : σ.2.2.1 i = (20 + t, len)) : eb_ent AC ad σ i = .inl (AC t, len, .inl (σ.2.2.2.1 i)) := by
  unfold eb_ent
  rw [hk]
  match t, ht with
  | 0, _ => rfl
  | 1, _ => rfl
  | 2, _ => rfl
theorem eb_ent_larr {AC : Nat → ClassId} {ad : Nat → Nat} {σ : eb_S} {i len : Nat} (hk : σ.2.2.1 i = (23, len)) : eb_ent AC ad σ i = .inl (AC 3, len, .inr (.inl (σ.2.2.2.2.1 i))) := by
  unfold eb_ent
  rw [hk]
  rfl
theorem eb_ent_qarr {AC : Nat → ClassId} {ad : Nat → Nat} {σ : eb_S} {i len : Nat} (hk : σ.2.2.1 i = (24, len)) : eb_ent AC ad σ i = .inl (AC 4, len, .inr (.inr (.inr (.inr (fun k => (σ.2.2.2.2.2 i k).map ad))))) := by
  unfold eb_ent
  rw [hk]
  rfl
theorem eb_upI_ne {i j k : Nat} {x : Int32} (h : j ≠ i) : va_up I i (upd (I i) k x) j = I j := if_neg h
theorem eb_upI_eq {i k : Nat} {x : Int32} : va_up I i (upd (I i) k x) i = upd (I i) k x := if_pos rfl
theorem eb_upI_Y {ad : Nat → Nat} {A : Nat → Prop} {U : State} {H : Heap} {i : Nat} {f : Nat → Int32} (hi : i < 1000000) (h : eb_Y ad (n, sl, kd, I, L, Rf) A U H) : eb_Y ad (n, sl, kd, va_up I i f, L, Rf) A U H := by
  refine ⟨h.1, h.2.1, h.2.2.1, h.2.2.2.1, fun j hj => ?_, h.2.2.2.2.2⟩
  have e : va_up I i f j = I j := if_neg (by omega)
  have h5 := h.2.2.2.2.1 j hj
  simpa only [e] using h5
theorem eb_moI {i : Nat} {f : Nat → Int32} (hX : i < 1000000) (h : eb_mo (n, sl, kd, va_up I i f, L, Rf) τ) : eb_mo (n, sl, kd, I, L, Rf) τ :=
  ⟨h.1, h.2.1, fun j hj => ⟨(h.2.2 j hj).1, (h.2.2 j hj).2.trans (if_neg (by omega))⟩⟩
theorem eb_getI {i c k idx : Nat} (hd : decode M.2.1 pc = .ok (.getfield idx, 3)) (hF : eb_FL M.1.cls idx c k 0) (hi : i < n) (hk : (kd i).1 = c) (kk : eb_V M d (pc + 3) l (.int (I i k) :: st) (n, sl, kd, I, L, Rf) r τ) : eb_V M d pc l (.ref i :: st) (n, sl, kd, I, L, Rf) r τ := by
  refine ⟨kk.1, fun p l0 e R s m args below meth c0 Q H locs cells slots D AC A ad ls hC hY hW hl h1 h2 K => ?_⟩
  obtain ⟨C, T, N, hc, hin, hkN, hnf, hfk, hc20, hlk⟩ := hF
  have W1 := kk.2 p l0 e R s m args below meth c0 Q H locs cells slots D AC A ad ls hC hY hW hl h1 h2 K
  obtain ⟨cx, cb, cm, co, ct, cK, cA, cf, cl, cn, cN, cO, cT⟩ := hC
  have he : (eb_wl AC ad (n, sl, kd, I, L, Rf))[i]? = some (ad i, .inr (c, (List.range N).map (eb_fv ad (n, sl, kd, I, L, Rf) i c))) := by
    rw [eb_wl_at hi, eb_ent_obj hk hc20, hnf]
  have hv : ((List.range N).map (eb_fv ad (n, sl, kd, I, L, Rf) i c))[k]? = some (.int (I i k)) := by
    simp [hkN, eb_fv, hfk]
  rcases hlk with hlk | ⟨host, hlk⟩
  · exact va_get cx cb ct hin co cK hW.1 i he hc k hkN (ct _ hlk) (fun _ h => h) hv hd W1
  · exact va_getN cx cb ct hin co cK hW.1 i he hc k hkN (va_Nw.use rfl (cN _ hlk)) (fun _ h => h) hv hd W1
theorem eb_getR {i c k idx j : Nat} (hd : decode M.2.1 pc = .ok (.getfield idx, 3)) (hF : eb_FL M.1.cls idx c k 2) (hi : i < n) (hk : (kd i).1 = c) (hr : Rf i k = some j) (kk : eb_V M d (pc + 3) l (.ref j :: st) (n, sl, kd, I, L, Rf) r τ) : eb_V M d pc l (.ref i :: st) (n, sl, kd, I, L, Rf) r τ := by
  refine ⟨kk.1, fun p l0 e R s m args below meth c0 Q H locs cells slots D AC A ad ls hC hY hW hl h1 h2 K => ?_⟩
  obtain ⟨C, T, N, hc, hin, hkN, hnf, hfk, hc20, hlk⟩ := hF
  have W1 := kk.2 p l0 e R s m args below meth c0 Q H locs cells slots D AC A ad ls hC hY hW hl h1 h2 K
  obtain ⟨cx, cb, cm, co, ct, cK, cA, cf, cl, cn, cN, cO, cT⟩ := hC
  have he : (eb_wl AC ad (n, sl, kd, I, L, Rf))[i]? = some (ad i, .inr (c, (List.range N).map (eb_fv ad (n, sl, kd, I, L, Rf) i c))) := by
    rw [eb_wl_at hi, eb_ent_obj hk hc20, hnf]
  have hv : ((List.range N).map (eb_fv ad (n, sl, kd, I, L, Rf) i c))[k]? = some (.ref (ad j)) := by
    simp [hkN, eb_fv, hfk, hr, va_rf]
  rcases hlk with hlk | ⟨host, hlk⟩
  · exact va_get cx cb ct hin co cK hW.1 i he hc k hkN (ct _ hlk) (fun _ h => h) hv hd W1
  · exact va_getN cx cb ct hin co cK hW.1 i he hc k hkN (va_Nw.use rfl (cN _ hlk)) (fun _ h => h) hv hd W1
theorem eb_fs_set {ad : Nat → Nat} {σ σ2 : eb_S} {i c k N : Nat} {v : Value} (hk : k < N) (hv : eb_fv ad σ2 i c k = v) (h : ∀ j, j ≠ k → eb_fv ad σ2 i c j = eb_fv ad σ i c j) : ((List.range N).map (eb_fv ad σ i c)).set k v = (List.range N).map (eb_fv ad σ2 i c) := by
  apply List.ext_getElem?
  intro j
  by_cases hj : j = k
  · subst hj
    rw [List.getElem?_set_self (by simp [hk])]
    simp [hk, hv]
  · rw [List.getElem?_set_ne (Ne.symm hj)]
    by_cases hjN : j < N
    · simp [hjN, h j hj]
    · simp [hjN]
theorem eb_putI {i c k idx : Nat} {x : Int32} (hd : decode M.2.1 pc = .ok (.putfield idx, 3)) (hF : eb_PL M.1.cls idx c k 0 false) (hi : i < n) (hX : i < 1000000) (hk : (kd i).1 = c) (hn : narrow (eb_ty c k) (.int x) = .int x) (hf : fits (eb_ty c k) (.int x) = true) (kk : eb_V M d (pc + 3) l st (n, sl, kd, va_up I i (upd (I i) k x), L, Rf) r τ) : eb_V M d pc l (.int x :: .ref i :: st) (n, sl, kd, I, L, Rf) r τ := by
  refine ⟨eb_moI hX kk.1, fun p l0 e R s m args below meth c0 Q H locs cells slots D AC A ad ls hC hY hW hl h1 h2 K => ?_⟩
  obtain ⟨C, T, N, hc, hin, hkN, hnf, hfk, hc20, hlk, hty, hnm, hfin, -⟩ := hF
  have W1 := fun H1 locs1 hW1 => kk.2 p l0 e R s m args below meth c0 Q H1 locs1 cells slots D AC A ad ls hC (eb_upI_Y hX hY) hW1 hl h1 h2 K
  obtain ⟨cx, cb, cm, co, ct, cK, cA, cf, cl, cn, cN, cO, cT⟩ := hC
  have he : (eb_wl AC ad (n, sl, kd, I, L, Rf))[i]? = some (ad i, .inr (c, (List.range N).map (eb_fv ad (n, sl, kd, I, L, Rf) i c))) := by
    rw [eb_wl_at hi, eb_ent_obj hk hc20, hnf]
  have hs : (eb_wl AC ad (n, sl, kd, I, L, Rf)).set i (ad i, .inr (c, ((List.range N).map (eb_fv ad (n, sl, kd, I, L, Rf) i c)).set k (.int x))) = eb_wl AC ad (n, sl, kd, va_up I i (upd (I i) k x), L, Rf) := by
    rw [eb_fs_set (σ2 := (n, sl, kd, va_up I i (upd (I i) k x), L, Rf)) hkN (by simp [eb_fv, hfk, va_up, upd]) (fun j hj => by simp [eb_fv, va_up, upd, hj]), ← hnf, ← eb_ent_obj (AC := AC) (ad := ad) (σ := (n, sl, kd, va_up I i (upd (I i) k x), L, Rf)) hk hc20]
    exact eb_wl_set rfl hi (fun j hj => eb_ent_congr rfl (eb_upI_ne hj) rfl rfl)
  rcases hlk with hlk | ⟨-, host, hlk⟩
  · exact va_put cx cb ct hin (eb_ty c) hty hnm co cK hW.1 hW.2.1 hW.2.2.1 i he hc k hkN (ct _ hlk) (fun _ h => h) hfin (hty k hkN) hn hf (by simp [hkN]) hd (fun H1 locs1 p1 p2 p3 => W1 H1 locs1 ⟨by rw [← hs]; exact p1, by rw [← hs]; exact p2, p3, hW.2.2.2⟩)
  · exact va_putN cx cb ct hin (eb_ty c) hty hnm co cK hW.1 hW.2.1 hW.2.2.1 i he hc k hkN (va_Nw.use rfl (cN _ hlk)) (fun _ h => h) hfin (hty k hkN) hn hf (by simp [hkN]) hd (fun H1 locs1 p1 p2 p3 => W1 H1 locs1 ⟨by rw [← hs]; exact p1, by rw [← hs]; exact p2, p3, hW.2.2.2⟩)
theorem eb_upR_Y {ad : Nat → Nat} {A : Nat → Prop} {U : State} {H : Heap} {Rf2 : Nat → Nat → Option Nat} (h : eb_Y ad (n, sl, kd, I, L, Rf) A U H) : eb_Y ad (n, sl, kd, I, L, Rf2) A U H := h
theorem eb_upL_Y {ad : Nat → Nat} {A : Nat → Prop} {U : State} {H : Heap} {L2 : Nat → Nat → Int64} (h : eb_Y ad (n, sl, kd, I, L, Rf) A U H) : eb_Y ad (n, sl, kd, I, L2, Rf) A U H := h
theorem eb_wfR {i k j : Nat} (hj : j < n ∨ 1000000 ≤ j) (h : eb_wf (n, sl, kd, I, L, Rf)) : eb_wf (n, sl, kd, I, L, va_up Rf i (va_up (Rf i) k (some j))) := by
  intro a b z hz
  show z < n ∨ _
  have hz2 : va_up Rf i (va_up (Rf i) k (some j)) a b = some z := hz
  by_cases ha : a = i
  · subst ha
    rw [show va_up Rf a (va_up (Rf a) k (some j)) a = va_up (Rf a) k (some j) from if_pos rfl] at hz2
    by_cases hb : b = k
    · subst hb
      rw [show va_up (Rf a) b (some j) b = some j from if_pos rfl] at hz2
      cases hz2
      exact hj
    · rw [show va_up (Rf a) k (some j) b = Rf a b from if_neg hb] at hz2
      exact h a b z hz2
  · rw [show va_up Rf i (va_up (Rf i) k (some j)) a = Rf a from if_neg ha] at hz2
    exact h a b z hz2
theorem eb_refty {t : FieldType} (h : eb_fk t = 2) (a : Nat) : narrow t (.ref a) = .ref a ∧ fits t (.ref a) = true := by
  cases t <;> first | exact ⟨rfl, rfl⟩ | (simp [eb_fk] at h)
/-- a reference into a field; fin: a final one, in its class's constructor -/
theorem eb_putR {i c k idx j : Nat} {fin : Bool} (hd : decode M.2.1 pc = .ok (.putfield idx, 3)) (hF : eb_PL M.1.cls idx c k 2 fin) (hfi : fin = true → M.1.name = "<init>") (hi : i < n) (hk : (kd i).1 = c) (hj : j < n ∨ 1000000 ≤ j) (kk : eb_V M d (pc + 3) l st (n, sl, kd, I, L, va_up Rf i (va_up (Rf i) k (some j))) r τ) : eb_V M d pc l (.ref j :: .ref i :: st) (n, sl, kd, I, L, Rf) r τ := by
  refine ⟨kk.1, fun p l0 e R s m args below meth c0 Q H locs cells slots D AC A ad ls hC hY hW hl h1 h2 K => ?_⟩
  obtain ⟨C, T, N, hc, hin, hkN, hnf, hfk, hc20, hlk, hty, hnm, hfin, hown⟩ := hF
  have W1 := fun H1 locs1 hW1 => kk.2 p l0 e R s m args below meth c0 Q H1 locs1 cells slots D AC A ad ls hC hY hW1 hl h1 h2 K
  obtain ⟨cx, cb, cm, co, ct, cK, cA, cf, cl, cn, cN, cO, cT⟩ := hC
  have hw := eb_wfR (i := i) (k := k) hj hW.2.2.2
  have he : (eb_wl AC ad (n, sl, kd, I, L, Rf))[i]? = some (ad i, .inr (c, (List.range N).map (eb_fv ad (n, sl, kd, I, L, Rf) i c))) := by
    rw [eb_wl_at hi, eb_ent_obj hk hc20, hnf]
  have hs : (eb_wl AC ad (n, sl, kd, I, L, Rf)).set i (ad i, .inr (c, ((List.range N).map (eb_fv ad (n, sl, kd, I, L, Rf) i c)).set k (.ref (ad j)))) = eb_wl AC ad (n, sl, kd, I, L, va_up Rf i (va_up (Rf i) k (some j))) := by
    rw [eb_fs_set (σ2 := (n, sl, kd, I, L, va_up Rf i (va_up (Rf i) k (some j)))) hkN (by simp [eb_fv, hfk, va_up, va_rf]) (fun z hz => by simp [eb_fv, va_up, hz]), ← hnf, ← eb_ent_obj (AC := AC) (ad := ad) (σ := (n, sl, kd, I, L, va_up Rf i (va_up (Rf i) k (some j)))) hk hc20]
    exact eb_wl_set rfl hi (fun z hz => eb_ent_congr rfl rfl rfl (if_neg hz))
  obtain ⟨q1, q2⟩ := eb_refty hfk (ad j)
  cases fin with
  | false =>
    rcases hlk with hlk | ⟨-, host, hlk⟩
    · exact va_put cx cb ct hin (eb_ty c) hty hnm co cK hW.1 hW.2.1 hW.2.2.1 i he hc k hkN (ct _ hlk) (fun _ h => h) hfin (hty k hkN) q1 q2 (by simp [hkN]) hd (fun H1 locs1 p1 p2 p3 => W1 H1 locs1 ⟨by rw [← hs]; exact p1, by rw [← hs]; exact p2, p3, hw⟩)
    · exact va_putN cx cb ct hin (eb_ty c) hty hnm co cK hW.1 hW.2.1 hW.2.2.1 i he hc k hkN (va_Nw.use rfl (cN _ hlk)) (fun _ h => h) hfin (hty k hkN) q1 q2 (by simp [hkN]) hd (fun H1 locs1 p1 p2 p3 => W1 H1 locs1 ⟨by rw [← hs]; exact p1, by rw [← hs]; exact p2, p3, hw⟩)
  | true =>
    rcases hlk with hlk | ⟨h9, -⟩
    · exact va_putF cx cb ct hin (eb_ty c) hty hnm co cK hW.1 hW.2.1 hW.2.2.1 i he hc k hkN (ct _ hlk) (fun _ h => h) hfin (cn.trans (hfi rfl)) (hown rfl) (hty k hkN) q1 q2 (by simp [hkN]) hd (fun H1 locs1 p1 p2 p3 => W1 H1 locs1 ⟨by rw [← hs]; exact p1, by rw [← hs]; exact p2, p3, hw⟩)
    · cases h9
/-- arrays of ints (t = 0), bytes (1), booleans (2) -/
theorem eb_iald {i len : Nat} {x : Int32} (hd : decode M.2.1 pc = .ok (.iaload, 1)) (hi : i < n) (hk : kd i = (20, len)) (hin : vp_in x len) (kk : eb_V M d (pc + 1) l (.int (I i x.toNatClampNeg) :: st) (n, sl, kd, I, L, Rf) r τ) : eb_V M d pc l (.int x :: .ref i :: st) (n, sl, kd, I, L, Rf) r τ :=
  ⟨kk.1, fun p l0 e R s m args below meth c0 Q H locs cells slots D AC A ad ls hC hY hW hl h1 h2 K => va_iald hC.1 hC.2.1 hC.2.2.2.2.2.1 hW.1 i 0 ((eb_wl_at hi).trans (congrArg (fun z => some (ad i, z)) (eb_ent_arr 0 (by decide) hk))) rfl hin hd (kk.2 p l0 e R s m args below meth c0 Q H locs cells slots D AC A ad ls hC hY hW hl h1 h2 K)⟩
theorem eb_bald {i len : Nat} {x : Int32} (hd : decode M.2.1 pc = .ok (.baload, 1)) (hi : i < n) (hk : kd i = (21, len)) (hin : vp_in x len) (kk : eb_V M d (pc + 1) l (.int (I i x.toNatClampNeg) :: st) (n, sl, kd, I, L, Rf) r τ) : eb_V M d pc l (.int x :: .ref i :: st) (n, sl, kd, I, L, Rf) r τ :=
  ⟨kk.1, fun p l0 e R s m args below meth c0 Q H locs cells slots D AC A ad ls hC hY hW hl h1 h2 K => va_bald hC.1 hC.2.1 hC.2.2.2.2.2.1 hW.1 i 1 ((eb_wl_at hi).trans (congrArg (fun z => some (ad i, z)) (eb_ent_arr 1 (by decide) hk))) rfl hin hd (kk.2 p l0 e R s m args below meth c0 Q H locs cells slots D AC A ad ls hC hY hW hl h1 h2 K)⟩
theorem eb_zald {i len : Nat} {x : Int32} (hd : decode M.2.1 pc = .ok (.baload, 1)) (hi : i < n) (hk : kd i = (22, len)) (hin : vp_in x len) (kk : eb_V M d (pc + 1) l (.int (I i x.toNatClampNeg) :: st) (n, sl, kd, I, L, Rf) r τ) : eb_V M d pc l (.int x :: .ref i :: st) (n, sl, kd, I, L, Rf) r τ :=
  ⟨kk.1, fun p l0 e R s m args below meth c0 Q H locs cells slots D AC A ad ls hC hY hW hl h1 h2 K => va_zald hC.1 hC.2.1 hC.2.2.2.2.2.1 hW.1 i 2 ((eb_wl_at hi).trans (congrArg (fun z => some (ad i, z)) (eb_ent_arr 2 (by decide) hk))) rfl hin hd (kk.2 p l0 e R s m args below meth c0 Q H locs cells slots D AC A ad ls hC hY hW hl h1 h2 K)⟩
theorem eb_lald {i len : Nat} {x : Int32} (hd : decode M.2.1 pc = .ok (.laload, 1)) (hi : i < n) (hk : kd i = (23, len)) (hin : vp_in x len) (kk : eb_V M d (pc + 1) l (.long (L i x.toNatClampNeg) :: st) (n, sl, kd, I, L, Rf) r τ) : eb_V M d pc l (.int x :: .ref i :: st) (n, sl, kd, I, L, Rf) r τ :=
  ⟨kk.1, fun p l0 e R s m args below meth c0 Q H locs cells slots D AC A ad ls hC hY hW hl h1 h2 K => va_lald hC.1 hC.2.1 hC.2.2.2.2.2.1 hW.1 i 3 ((eb_wl_at hi).trans (congrArg (fun z => some (ad i, z)) (eb_ent_larr hk))) rfl hin hd (kk.2 p l0 e R s m args below meth c0 Q H locs cells slots D AC A ad ls hC hY hW hl h1 h2 K)⟩
theorem eb_aald {i len j : Nat} {x : Int32} (hd : decode M.2.1 pc = .ok (.aaload, 1)) (hi : i < n) (hk : kd i = (24, len)) (hin : vp_in x len) (hr : Rf i x.toNatClampNeg = some j) (kk : eb_V M d (pc + 1) l (.ref j :: st) (n, sl, kd, I, L, Rf) r τ) : eb_V M d pc l (.int x :: .ref i :: st) (n, sl, kd, I, L, Rf) r τ :=
  ⟨kk.1, fun p l0 e R s m args below meth c0 Q H locs cells slots D AC A ad ls hC hY hW hl h1 h2 K => va_aldq hC.1 hC.2.1 hC.2.2.2.2.2.1 hW.1 i 4 ((eb_wl_at hi).trans (congrArg (fun z => some (ad i, z)) (eb_ent_qarr hk))) rfl hin hd (by
    have k2 := kk.2 p l0 e R s m args below meth c0 Q H locs cells slots D AC A ad ls hC hY hW hl h1 h2 K
    show W _ _ _ _ _ _ _ _ _ _ _ _ _ _ _ (F0 m (pc + 1) ls (va_rf ((Rf i x.toNatClampNeg).map ad) :: _))
    rw [hr]
    exact k2)⟩
theorem eb_alen {i c len : Nat} {v : Int32} (hd : decode M.2.1 pc = .ok (.arraylength, 1)) (hi : i < n) (hk : kd i = (c, len)) (hc : 20 ≤ c ∧ c ≤ 24) (hv : Int32.ofNat len = v) (kk : eb_V M d (pc + 1) l (.int v :: st) (n, sl, kd, I, L, Rf) r τ) : eb_V M d pc l (.ref i :: st) (n, sl, kd, I, L, Rf) r τ := by
  refine ⟨kk.1, fun p l0 e R s m args below meth c0 Q H locs cells slots D AC A ad ls hC hY hW hl h1 h2 K => ?_⟩
  have k2 := kk.2 p l0 e R s m args below meth c0 Q H locs cells slots D AC A ad ls hC hY hW hl h1 h2 K
  rcases (show c = 20 ∨ c = 21 ∨ c = 22 ∨ c = 23 ∨ c = 24 by omega) with rfl | rfl | rfl | rfl | rfl
  · exact va_alen hC.1 hC.2.1 hC.2.2.2.2.2.1 hW.1 i 0 ((eb_wl_at hi).trans (congrArg (fun z => some (ad i, z)) (eb_ent_arr 0 (by decide) hk))) rfl hv hd k2
  · exact va_alen hC.1 hC.2.1 hC.2.2.2.2.2.1 hW.1 i 1 ((eb_wl_at hi).trans (congrArg (fun z => some (ad i, z)) (eb_ent_arr 1 (by decide) hk))) rfl hv hd k2
  · exact va_alen hC.1 hC.2.1 hC.2.2.2.2.2.1 hW.1 i 2 ((eb_wl_at hi).trans (congrArg (fun z => some (ad i, z)) (eb_ent_arr 2 (by decide) hk))) rfl hv hd k2
  · exact va_alen hC.1 hC.2.1 hC.2.2.2.2.2.1 hW.1 i 3 ((eb_wl_at hi).trans (congrArg (fun z => some (ad i, z)) (eb_ent_larr hk))) rfl hv hd k2
  · exact va_alen hC.1 hC.2.1 hC.2.2.2.2.2.1 hW.1 i 4 ((eb_wl_at hi).trans (congrArg (fun z => some (ad i, z)) (eb_ent_qarr hk))) rfl hv hd k2
theorem eb_iast {i len : Nat} {j x : Int32} (hd : decode M.2.1 pc = .ok (.iastore, 1)) (hi : i < n) (hX : i < 1000000) (hk : kd i = (20, len)) (hin : vp_in j len) (kk : eb_V M d (pc + 1) l st (n, sl, kd, va_up I i (upd (I i) j.toNatClampNeg x), L, Rf) r τ) : eb_V M d pc l (.int x :: .int j :: .ref i :: st) (n, sl, kd, I, L, Rf) r τ := by
  refine ⟨eb_moI hX kk.1, fun p l0 e R s m args below meth c0 Q H locs cells slots D AC A ad ls hC hY hW hl h1 h2 K => ?_⟩
  have hs : (eb_wl AC ad (n, sl, kd, I, L, Rf)).set i (ad i, .inl (AC 0, len, .inl (upd (I i) j.toNatClampNeg x))) = eb_wl AC ad (n, sl, kd, va_up I i (upd (I i) j.toNatClampNeg x), L, Rf) := by
    rw [← eb_wl_set (σ := (n, sl, kd, I, L, Rf)) (τ := (n, sl, kd, va_up I i (upd (I i) j.toNatClampNeg x), L, Rf)) rfl hi (fun z hz => eb_ent_congr rfl (eb_upI_ne hz) rfl rfl), eb_ent_arr 0 (by decide) hk]
    rw [show (n, sl, kd, va_up I i (upd (I i) j.toNatClampNeg x), L, Rf).2.2.2.1 i = upd (I i) j.toNatClampNeg x from if_pos rfl]
  exact va_iast hC.1 hC.2.1 hC.2.2.2.2.2.1 hW.1 hW.2.1 hW.2.2.1 i 0 ((eb_wl_at hi).trans (congrArg (fun z => some (ad i, z)) (eb_ent_arr 0 (by decide) hk))) rfl hin hd (fun H1 locs1 p1 p2 p3 => kk.2 p l0 e R s m args below meth c0 Q H1 locs1 cells slots D AC A ad ls hC (eb_upI_Y hX hY) ⟨by rw [← hs]; exact p1, by rw [← hs]; exact p2, p3, hW.2.2.2⟩ hl h1 h2 K)
theorem eb_bast {i len : Nat} {j x : Int32} (hd : decode M.2.1 pc = .ok (.bastore, 1)) (hi : i < n) (hX : i < 1000000) (hk : kd i = (21, len)) (hin : vp_in j len) (kk : eb_V M d (pc + 1) l st (n, sl, kd, va_up I i (upd (I i) j.toNatClampNeg (vp_nar .byte x)), L, Rf) r τ) : eb_V M d pc l (.int x :: .int j :: .ref i :: st) (n, sl, kd, I, L, Rf) r τ := by
  refine ⟨eb_moI hX kk.1, fun p l0 e R s m args below meth c0 Q H locs cells slots D AC A ad ls hC hY hW hl h1 h2 K => ?_⟩
  have hs : (eb_wl AC ad (n, sl, kd, I, L, Rf)).set i (ad i, .inl (AC 1, len, .inl (upd (I i) j.toNatClampNeg (vp_nar .byte x)))) = eb_wl AC ad (n, sl, kd, va_up I i (upd (I i) j.toNatClampNeg (vp_nar .byte x)), L, Rf) := by
    rw [← eb_wl_set (σ := (n, sl, kd, I, L, Rf)) (τ := (n, sl, kd, va_up I i (upd (I i) j.toNatClampNeg (vp_nar .byte x)), L, Rf)) rfl hi (fun z hz => eb_ent_congr rfl (eb_upI_ne hz) rfl rfl), eb_ent_arr 1 (by decide) hk]
    rw [show (n, sl, kd, va_up I i (upd (I i) j.toNatClampNeg (vp_nar .byte x)), L, Rf).2.2.2.1 i = upd (I i) j.toNatClampNeg (vp_nar .byte x) from if_pos rfl]
  exact va_bast hC.1 hC.2.1 hC.2.2.2.2.2.1 hW.1 hW.2.1 hW.2.2.1 i 1 ((eb_wl_at hi).trans (congrArg (fun z => some (ad i, z)) (eb_ent_arr 1 (by decide) hk))) rfl hin hd (fun H1 locs1 p1 p2 p3 => kk.2 p l0 e R s m args below meth c0 Q H1 locs1 cells slots D AC A ad ls hC (eb_upI_Y hX hY) ⟨by rw [← hs]; exact p1, by rw [← hs]; exact p2, p3, hW.2.2.2⟩ hl h1 h2 K)
theorem eb_zast {i len : Nat} {j x : Int32} (hd : decode M.2.1 pc = .ok (.bastore, 1)) (hi : i < n) (hX : i < 1000000) (hk : kd i = (22, len)) (hin : vp_in j len) (kk : eb_V M d (pc + 1) l st (n, sl, kd, va_up I i (upd (I i) j.toNatClampNeg (vp_nar .boolean x)), L, Rf) r τ) : eb_V M d pc l (.int x :: .int j :: .ref i :: st) (n, sl, kd, I, L, Rf) r τ := by
  refine ⟨eb_moI hX kk.1, fun p l0 e R s m args below meth c0 Q H locs cells slots D AC A ad ls hC hY hW hl h1 h2 K => ?_⟩
  have hs : (eb_wl AC ad (n, sl, kd, I, L, Rf)).set i (ad i, .inl (AC 2, len, .inl (upd (I i) j.toNatClampNeg (vp_nar .boolean x)))) = eb_wl AC ad (n, sl, kd, va_up I i (upd (I i) j.toNatClampNeg (vp_nar .boolean x)), L, Rf) := by
    rw [← eb_wl_set (σ := (n, sl, kd, I, L, Rf)) (τ := (n, sl, kd, va_up I i (upd (I i) j.toNatClampNeg (vp_nar .boolean x)), L, Rf)) rfl hi (fun z hz => eb_ent_congr rfl (eb_upI_ne hz) rfl rfl), eb_ent_arr 2 (by decide) hk]
    rw [show (n, sl, kd, va_up I i (upd (I i) j.toNatClampNeg (vp_nar .boolean x)), L, Rf).2.2.2.1 i = upd (I i) j.toNatClampNeg (vp_nar .boolean x) from if_pos rfl]
  exact va_zast hC.1 hC.2.1 hC.2.2.2.2.2.1 hW.1 hW.2.1 hW.2.2.1 i 2 ((eb_wl_at hi).trans (congrArg (fun z => some (ad i, z)) (eb_ent_arr 2 (by decide) hk))) rfl hin hd (fun H1 locs1 p1 p2 p3 => kk.2 p l0 e R s m args below meth c0 Q H1 locs1 cells slots D AC A ad ls hC (eb_upI_Y hX hY) ⟨by rw [← hs]; exact p1, by rw [← hs]; exact p2, p3, hW.2.2.2⟩ hl h1 h2 K)
theorem eb_last {i len : Nat} {j : Int32} {x : Int64} (hd : decode M.2.1 pc = .ok (.lastore, 1)) (hi : i < n) (hk : kd i = (23, len)) (hin : vp_in j len) (kk : eb_V M d (pc + 1) l st (n, sl, kd, I, va_up L i (vp_updL (L i) j.toNatClampNeg x), Rf) r τ) : eb_V M d pc l (.long x :: .int j :: .ref i :: st) (n, sl, kd, I, L, Rf) r τ := by
  refine ⟨kk.1, fun p l0 e R s m args below meth c0 Q H locs cells slots D AC A ad ls hC hY hW hl h1 h2 K => ?_⟩
  have hs : (eb_wl AC ad (n, sl, kd, I, L, Rf)).set i (ad i, .inl (AC 3, len, .inr (.inl (vp_updL (L i) j.toNatClampNeg x)))) = eb_wl AC ad (n, sl, kd, I, va_up L i (vp_updL (L i) j.toNatClampNeg x), Rf) := by
    rw [← eb_wl_set (σ := (n, sl, kd, I, L, Rf)) (τ := (n, sl, kd, I, va_up L i (vp_updL (L i) j.toNatClampNeg x), Rf)) rfl hi (fun z hz => eb_ent_congr rfl rfl (if_neg hz) rfl), eb_ent_larr hk]
    rw [show (n, sl, kd, I, va_up L i (vp_updL (L i) j.toNatClampNeg x), Rf).2.2.2.2.1 i = vp_updL (L i) j.toNatClampNeg x from if_pos rfl]
  exact va_last hC.1 hC.2.1 hC.2.2.2.2.2.1 hW.1 hW.2.1 hW.2.2.1 i 3 ((eb_wl_at hi).trans (congrArg (fun z => some (ad i, z)) (eb_ent_larr hk))) rfl hin hd (fun H1 locs1 p1 p2 p3 => kk.2 p l0 e R s m args below meth c0 Q H1 locs1 cells slots D AC A ad ls hC hY ⟨by rw [← hs]; exact p1, by rw [← hs]; exact p2, p3, hW.2.2.2⟩ hl h1 h2 K)
theorem eb_aast {i len v : Nat} {j : Int32} (hd : decode M.2.1 pc = .ok (.aastore, 1)) (hi : i < n) (hk : kd i = (24, len)) (hv : v < n) (hkv : (kd v).1 = 7) (hin : vp_in j len) (kk : eb_V M d (pc + 1) l st (n, sl, kd, I, L, va_up Rf i (va_up (Rf i) j.toNatClampNeg (some v))) r τ) : eb_V M d pc l (.ref v :: .int j :: .ref i :: st) (n, sl, kd, I, L, Rf) r τ := by
  refine ⟨kk.1, fun p l0 e R s m args below meth c0 Q H locs cells slots D AC A ad ls hC hY hW hl h1 h2 K => ?_⟩
  have hf : va_up (fun k => (Rf i k).map ad) j.toNatClampNeg (some (ad v)) = fun k => ((va_up Rf i (va_up (Rf i) j.toNatClampNeg (some v))) i k).map ad := by
    funext z
    by_cases hz : z = j.toNatClampNeg <;> simp [va_up, hz]
  have hs : (eb_wl AC ad (n, sl, kd, I, L, Rf)).set i (ad i, .inl (AC 4, len, .inr (.inr (.inr (.inr (va_up (fun k => (Rf i k).map ad) j.toNatClampNeg (some (ad v)))))))) = eb_wl AC ad (n, sl, kd, I, L, va_up Rf i (va_up (Rf i) j.toNatClampNeg (some v))) := by
    rw [← eb_wl_set (σ := (n, sl, kd, I, L, Rf)) (τ := (n, sl, kd, I, L, va_up Rf i (va_up (Rf i) j.toNatClampNeg (some v)))) rfl hi (fun z hz => eb_ent_congr rfl rfl rfl (if_neg hz)), eb_ent_qarr hk, hf]
  have hev : (eb_wl AC ad (n, sl, kd, I, L, Rf))[v]? = some (ad v, .inr (7, (List.range (eb_nf 7)).map (eb_fv ad (n, sl, kd, I, L, Rf) v 7))) := by
    rw [eb_wl_at hv, eb_ent_obj hkv (by decide)]
  exact va_astq (r := (RX7, TX7, 9)) hC.1 hC.2.1 hC.2.2.2.2.2.1 hW.1 hW.2.1 hW.2.2.1 i 4 v 7 ((eb_wl_at hi).trans (congrArg (fun z => some (ad i, z)) (eb_ent_qarr hk))) rfl hev rfl hin hd (fun H1 locs1 p1 p2 p3 => kk.2 p l0 e R s m args below meth c0 Q H1 locs1 cells slots D AC A ad ls hC hY ⟨by rw [← hs]; exact p1, by rw [← hs]; exact p2, p3, eb_wfR (Or.inl hv) hW.2.2.2⟩ hl h1 h2 K)
end EBH
