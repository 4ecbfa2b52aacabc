/-! ROWS of the layer: the kinds of calls -/
def eb_MV (M : eb_M) (n c : Nat) : Prop := eb_MC M n ∧ Cond.instanceMethod M.1 ∈ eb_tbl ∧ Cond.selects M.1.cls M.1 M.1 ∈ eb_tbl ∧ c < 20 ∧ ∃ (T : u_T) (N : Nat), eb_cl[c]? = some (M.1.cls, T, N)
def eb_MS (M : eb_M) (n : Nat) : Prop := eb_MC M n ∧ Cond.static M.1 ∈ eb_tbl
def eb_MI (M : eb_M) (n : Nat) : Prop := eb_MC M n ∧ Cond.instanceMethod M.1 ∈ eb_tbl ∧ M.1.name = "<init>" ∧ M.2.2.2 = none
theorem eb_cat_map (ad : Nat → Nat) (l : List Value) : ((l.map (eb_mv ad)).map fun v => v.category) = l.map fun v => v.category := by
  rw [List.map_map]
  exact List.map_congr_left (fun v _ => eb_mv_cat ad v)
theorem eb_mon {m : MethodId} {pc : Nat} {ls : Array Slot} {st : List Value} {ad : Nat → Nat} {rest : List Value} (h : (rest.map fun v => v.category).sum ≤ 8) : 2 * (F0 m pc ls st).monitorRoom + ((rest.map (eb_mv ad)).map fun v => v.category).sum ≤ 8 := by
  rw [eb_cat_map]
  exact lv_room h
section EBC
variable {M M1 : eb_M} {d pc : Nat} {l : List (Nat × Value)} {st rest as : List Value} {σ σ1 : eb_S} {r r1 : Option Value} {τ : eb_S} {idx n i c : Nat}
theorem eb_rmR {R : Room} {d maxL mc ms : Nat} (h1 : d + 1 ≤ R.frames) (h2 : 40 * (d + 1) ≤ R.locals) (h3 : maxL ≤ 21) : (eb_rm d mc ms).frames + 1 ≤ R.frames ∧ 8 + (maxL + 11) + (eb_rm d mc ms).locals ≤ R.locals := by
  refine ⟨h1, ?_⟩
  show 8 + (maxL + 11) + 40 * d ≤ R.locals
  omega
/-- an object's method -/
theorem eb_callV (hE : eb_E M1 d (.ref i :: as) σ r1 σ1) (hd : decode M.2.1 pc = .ok (.invokevirtual idx, 3)) (hL : eb_ML M.1.cls idx M1.1) (hM : eb_MV M1 n c) (hn : as.length = n) (hi : i < σ.1) (hk : (σ.2.2.1 i).1 = c) (hrest : (rest.map fun v => v.category).sum ≤ 8) (hst : as.reverse ++ .ref i :: rest = st)
    (hok : σ1.1 = σ.1 ∨ ((∀ q ∈ l, eb_okv σ.1 q.2) ∧ ∀ v ∈ rest, eb_okv σ.1 v)) (kk : eb_V M (d + 1) (pc + 3) l (r1.toList ++ rest) σ1 r τ) : eb_V M (d + 1) pc l st σ r τ := by
  refine eb_call hE ?_ hok kk
  intro p l0 e R s m args below meth c0 H locs cells slots D AC A ad ls hC hY hW hsz hroom hsub
  obtain ⟨⟨mc1, mc2, mc3, mc4⟩, mi1, mi2, hc20, T, N, hcl⟩ := hM
  have hpre := eb_pre_of hC hY hW hsub
  obtain ⟨cx, cb, cm, co, ct, cK, cA, cf, cl, cn, cN, cO, cT⟩ := hC
  have he : (eb_wl AC ad σ)[i]? = some (ad i, .inr (c, (List.range (eb_nf c)).map (eb_fv ad σ i c))) := by
    rw [eb_wl_at hi, eb_ent_obj hk hc20]
  have hrecv := va_recv cK hW.1 hcl he
  have hR := eb_rmR (mc := σ1.2.1.1 - σ.2.1.1) (ms := σ1.2.1.2 - σ.2.1.2) cf cl mc4
  subst hst
  have hs : (as.reverse ++ .ref i :: rest).map (eb_mv ad) = (as.map (eb_mv ad)).reverse ++ .ref (ad i) :: rest.map (eb_mv ad) := by
    rw [List.map_append, List.map_reverse]; rfl
  rcases hL with hL | ⟨host, hL⟩
  · exact va_runV (As := as.map (eb_mv ad)) ⟨cx, cb, cm, co, ct⟩ (hE.2 l0 cT D AC ad H.size) (cwV n ct (fun w hw => by
      rcases List.mem_append.mp hw with hw | hw
      · rcases List.mem_cons.mp hw with rfl | hw
        · exact eb_good _ hL
        rcases List.mem_cons.mp hw with rfl | hw
        · exact eb_good _ mi1
        rcases List.mem_cons.mp hw with rfl | hw
        · exact eb_good _ mi2
        rcases List.mem_cons.mp hw with rfl | hw
        · exact eb_good _ mc2
        cases hw
      · exact eb_goodC mc1 w hw) rfl rfl rfl ⟨rfl, mc3⟩ hR) ⟨eb_blind _ D AC ad σ H.size, hrecv, fun U hU hWm => ⟨rfl, hpre U hU hWm⟩⟩ rfl (by rw [List.length_map]; exact hn) hsz hs (eb_mon hrest) hd hroom
  · exact va_runVN (C := M1.1.cls) (As := as.map (eb_mv ad)) ⟨cx, cb, cm, co, ct⟩ (hE.2 l0 cT D AC ad H.size) ⟨va_cnB n ct (eb_goodC mc1) rfl rfl rfl (cN _ hL) (ct _ mc2) mc3 hR, ct _ mi1, ct _ mi2⟩ ⟨eb_blind _ D AC ad σ H.size, hrecv, fun U hU hWm => ⟨rfl, hpre U hU hWm⟩⟩ rfl (by rw [List.length_map]; exact hn) hsz hs (eb_mon hrest) hd hroom
/-- a static method -/
theorem eb_callS (hE : eb_E M1 d as σ r1 σ1) (hd : decode M.2.1 pc = .ok (.invokestatic idx, 3)) (hL : eb_ML M.1.cls idx M1.1) (hM : eb_MS M1 n) (hn : as.length = n) (hrest : (rest.map fun v => v.category).sum ≤ 8) (hst : as.reverse ++ rest = st)
    (hok : σ1.1 = σ.1 ∨ ((∀ q ∈ l, eb_okv σ.1 q.2) ∧ ∀ v ∈ rest, eb_okv σ.1 v)) (kk : eb_V M (d + 1) (pc + 3) l (r1.toList ++ rest) σ1 r τ) : eb_V M (d + 1) pc l st σ r τ := by
  refine eb_call hE ?_ hok kk
  intro p l0 e R s m args below meth c0 H locs cells slots D AC A ad ls hC hY hW hsz hroom hsub
  obtain ⟨⟨mc1, mc2, mc3, mc4⟩, ms1⟩ := hM
  have hpre := eb_pre_of hC hY hW hsub
  obtain ⟨cx, cb, cm, co, ct, cK, cA, cf, cl, cn, cN, cO, cT⟩ := hC
  have hR := eb_rmR (mc := σ1.2.1.1 - σ.2.1.1) (ms := σ1.2.1.2 - σ.2.1.2) cf cl mc4
  subst hst
  have hs : (as.reverse ++ rest).map (eb_mv ad) = (as.map (eb_mv ad)).reverse ++ rest.map (eb_mv ad) := by
    rw [List.map_append, List.map_reverse]
  rcases hL with hL | ⟨host, hL⟩
  · exact va_runS (As := as.map (eb_mv ad)) ⟨cx, cb, cm, co, ct⟩ (hE.2 l0 cT D AC ad H.size) ⟨callB_of n ct (eb_goodC mc1) rfl rfl rfl (ct _ mc2) (ct _ hL) mc3 hR, ct _ ms1⟩ ⟨eb_blind _ D AC ad σ H.size, fun U hU hWm => ⟨rfl, hpre U hU hWm⟩⟩ rfl (by rw [List.length_map]; exact hn) hsz hs (eb_mon hrest) hd hroom
  · exact va_runSN (As := as.map (eb_mv ad)) ⟨cx, cb, cm, co, ct⟩ (hE.2 l0 cT D AC ad H.size) ⟨va_cnB n ct (eb_goodC mc1) rfl rfl rfl (cN _ hL) (ct _ mc2) mc3 hR, ct _ ms1, trivial⟩ ⟨eb_blind _ D AC ad σ H.size, fun U hU hWm => ⟨rfl, hpre U hU hWm⟩⟩ rfl (by rw [List.length_map]; exact hn) hsz hs (eb_mon hrest) hd hroom
/-- a method of a String constant -/
theorem eb_callT (hE : eb_E M1 d (.ref (1000000 + i) :: as) σ r1 σ1) (hi : i < 11) (hcl : M1.1.cls = "java/lang/String") (hd : decode M.2.1 pc = .ok (.invokevirtual idx, 3)) (hL : Cond.methodLink M.1.cls idx M1.1 ∈ eb_tbl) (hM : eb_MC M1 n) (hI : Cond.instanceMethod M1.1 ∈ eb_tbl ∧ Cond.selects M1.1.cls M1.1 M1.1 ∈ eb_tbl) (hn : as.length = n) (hrest : (rest.map fun v => v.category).sum ≤ 8) (hst : as.reverse ++ .ref (1000000 + i) :: rest = st)
    (hok : σ1.1 = σ.1 ∨ ((∀ q ∈ l, eb_okv σ.1 q.2) ∧ ∀ v ∈ rest, eb_okv σ.1 v)) (kk : eb_V M (d + 1) (pc + 3) l (r1.toList ++ rest) σ1 r τ) : eb_V M (d + 1) pc l st σ r τ := by
  refine eb_call hE ?_ hok kk
  intro p l0 e R s m args below meth c0 H locs cells slots D AC A ad ls hC hY hW hsz hroom hsub
  obtain ⟨mc1, mc2, mc3, mc4⟩ := hM
  have hpre := eb_pre_of hC hY hW hsub
  obtain ⟨cx, cb, cm, co, ct, cK, cA, cf, cl, cn, cN, cO, cT⟩ := hC
  have hrecv := vk_recv hY.1 hi hW.2.2.1
  have hR := eb_rmR (mc := σ1.2.1.1 - σ.2.1.1) (ms := σ1.2.1.2 - σ.2.1.2) cf cl mc4
  subst hst
  have hs : (as.reverse ++ .ref (1000000 + i) :: rest).map (eb_mv ad) = (as.map (eb_mv ad)).reverse ++ .ref (ad (1000000 + i)) :: rest.map (eb_mv ad) := by
    rw [List.map_append, List.map_reverse]; rfl
  exact va_runV (As := as.map (eb_mv ad)) ⟨cx, cb, cm, co, ct⟩ (hE.2 l0 cT D AC ad H.size) (cwV n ct (fun w hw => by
      rcases List.mem_append.mp hw with hw | hw
      · rcases List.mem_cons.mp hw with rfl | hw
        · exact eb_good _ hL
        rcases List.mem_cons.mp hw with rfl | hw
        · exact eb_good _ hI.1
        rcases List.mem_cons.mp hw with rfl | hw
        · exact eb_good _ hI.2
        rcases List.mem_cons.mp hw with rfl | hw
        · exact eb_good _ mc2
        cases hw
      · exact eb_goodC mc1 w hw) rfl rfl rfl ⟨rfl, mc3⟩ hR) ⟨eb_blind _ D AC ad σ H.size, by rw [hcl]; exact hrecv, fun U hU hWm => ⟨rfl, hpre U hU hWm⟩⟩ rfl (by rw [List.length_map]; exact hn) hsz hs (eb_mon hrest) hd hroom
end EBC
