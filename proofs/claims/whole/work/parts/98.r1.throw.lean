/-! methods that throw, and their catching -/
/-- on the memory as it is, the walk comes to this place with this stack -/
def eb_U (M : eb_M) (d pc : Nat) (l : List (Nat × Value)) (st : List Value) (σ : eb_S) (pcE : Nat) (stE : List Value) : Prop :=
  ∀ (p : Program) (l0 : Launch) (e : Env) (R : Room) (s : State) (m : MethodId) (args : Array Value) (below : List Frame) (meth : Method) (c : Code) (Q : State → Prop) (H : Heap) (locs : List Loc) (cells slots : Nat) (D : va_G) (AC : Nat → ClassId) (A : Nat → Prop) (ad : Nat → Nat) (ls : Array Slot),
    eb_C M d l0 p R s m args meth c D AC A → eb_Y ad σ A s s.heap → eb_Wd D AC A s.heap ad σ H locs → lv_has ls M.2.2.1 (l.map (fun q => (q.1, eb_mv ad q.2))) → cells ≤ R.cells → slots ≤ R.slots →
    (∀ (H1 : Heap) (locs1 : List Loc), eb_Wd D AC A s.heap ad σ H1 locs1 → W p l0 e R s m args below meth c H1 locs1 cells slots Q (F0 m pcE ls (stE.map (eb_mv ad)))) →
    W p l0 e R s m args below meth c H locs cells slots Q (F0 m pc ls (st.map (eb_mv ad)))
section EUR
variable {M M1 : eb_M} {d pc pcE : Nat} {l : List (Nat × Value)} {st stE rest as : List Value} {σ : eb_S} {r1 : Option Value} {n : Nat} {sl : Nat × Nat} {kd : Nat → Nat × Nat} {I : Nat → Nat → Int32} {L : Nat → Nat → Int64} {Rf : Nat → Nat → Option Nat}
theorem eu_end : eb_U M d pcE l stE σ pcE stE := fun p l0 e R s m args below meth c Q H locs cells slots D AC A ad ls hC hY hW hl h1 h2 K => K H locs hW
theorem eu_iload_n {kk : Fin 4} {i : Nat} {x : Int32} (hd : decode M.2.1 pc = .ok (.iload_n kk, 1)) (hi : (kk : Nat) = i) (hv : eb_lk l i = some (.int x)) (k : eb_U M d (pc + 1) l (.int x :: st) σ pcE stE) : eb_U M d pc l st σ pcE stE :=
  fun p l0 e R s m args below meth c Q H locs cells slots D AC A ad ls hC hY hW hl h1 h2 K => lv_iload_n hC.1 hC.2.1 hd hi (eb_has hl hv) (k p l0 e R s m args below meth c Q H locs cells slots D AC A ad ls hC hY hW hl h1 h2 K)
theorem eu_aload_n {kk : Fin 4} {i : Nat} {x : Nat} (hd : decode M.2.1 pc = .ok (.aload_n kk, 1)) (hi : (kk : Nat) = i) (hv : eb_lk l i = some (.ref x)) (k : eb_U M d (pc + 1) l (.ref x :: st) σ pcE stE) : eb_U M d pc l st σ pcE stE :=
  fun p l0 e R s m args below meth c Q H locs cells slots D AC A ad ls hC hY hW hl h1 h2 K => lv_aload_n hC.1 hC.2.1 hd hi (eb_has hl hv) (k p l0 e R s m args below meth c Q H locs cells slots D AC A ad ls hC hY hW hl h1 h2 K)
theorem eu_iconst {n : Int} {v : Int32} (hd : decode M.2.1 pc = .ok (.iconst n, 1)) (hv : Int32.ofInt n = v) (k : eb_U M d (pc + 1) l (.int v :: st) σ pcE stE) : eb_U M d pc l st σ pcE stE :=
  fun p l0 e R s m args below meth c Q H locs cells slots D AC A ad ls hC hY hW hl h1 h2 K => lv_iconst hC.1 hC.2.1 hd hv (k p l0 e R s m args below meth c Q H locs cells slots D AC A ad ls hC hY hW hl h1 h2 K)
theorem eu_isub {x y : Int32} (hd : decode M.2.1 pc = .ok (.isub, 1)) (k : eb_U M d (pc + 1) l (.int (x - y) :: st) σ pcE stE) : eb_U M d pc l (.int y :: .int x :: st) σ pcE stE :=
  fun p l0 e R s m args below meth c Q H locs cells slots D AC A ad ls hC hY hW hl h1 h2 K => lv_isub hC.1 hC.2.1 hd (k p l0 e R s m args below meth c Q H locs cells slots D AC A ad ls hC hY hW hl h1 h2 K)
theorem eu_if_eq0 {off : Int} {tgt : Nat} (hd : decode M.2.1 pc = .ok (.ifCond .eq off, 3)) (ht : (pc : Int) + off = (tgt : Int)) (k : eb_U M d tgt l st σ pcE stE) : eb_U M d pc l (.int 0 :: st) σ pcE stE :=
  fun p l0 e R s m args below meth c Q H locs cells slots D AC A ad ls hC hY hW hl h1 h2 K => lv_if_eq hC.1 hC.2.1 hd ht (fun _ => k p l0 e R s m args below meth c Q H locs cells slots D AC A ad ls hC hY hW hl h1 h2 K) (fun h => absurd (show (0 : Int32) = 0 from rfl) (by first | exact h | simpa using h))
theorem eu_if_eq1 {off : Int} {tgt : Nat} (hd : decode M.2.1 pc = .ok (.ifCond .eq off, 3)) (ht : (pc : Int) + off = (tgt : Int)) (k : eb_U M d (pc + 3) l st σ pcE stE) : eb_U M d pc l (.int 1 :: st) σ pcE stE :=
  fun p l0 e R s m args below meth c Q H locs cells slots D AC A ad ls hC hY hW hl h1 h2 K => lv_if_eq hC.1 hC.2.1 hd ht (fun h => absurd (show (1 : Int32) = 0 by first | exact h | simpa using h) (by decide)) (fun _ => k p l0 e R s m args below meth c Q H locs cells slots D AC A ad ls hC hY hW hl h1 h2 K)
theorem eu_if_ne0 {off : Int} {tgt : Nat} (hd : decode M.2.1 pc = .ok (.ifCond .ne off, 3)) (ht : (pc : Int) + off = (tgt : Int)) (k : eb_U M d (pc + 3) l st σ pcE stE) : eb_U M d pc l (.int 0 :: st) σ pcE stE :=
  fun p l0 e R s m args below meth c Q H locs cells slots D AC A ad ls hC hY hW hl h1 h2 K => lv_if_ne hC.1 hC.2.1 hd ht (fun h => absurd (show (0 : Int32) = 0 from rfl) (by first | exact h | simpa using h)) (fun _ => k p l0 e R s m args below meth c Q H locs cells slots D AC A ad ls hC hY hW hl h1 h2 K)
theorem eu_getI {i c k idx : Nat} (hd : decode M.2.1 pc = .ok (.getfield idx, 3)) (hF : eb_FL M.1.cls idx c k 0) (hi : i < n) (hk : (kd i).1 = c) (kk : eb_U M d (pc + 3) l (.int (I i k) :: st) (n, sl, kd, I, L, Rf) pcE stE) : eb_U M d pc l (.ref i :: st) (n, sl, kd, I, L, Rf) pcE stE := by
  intro p l0 e R s m args below meth c0 Q H locs cells slots D AC A ad ls hC hY hW hl h1 h2 K
  obtain ⟨C, T, N, hc, hin, hkN, hnf, hfk, hc20, hlk⟩ := hF
  have W1 := kk p l0 e R s m args below meth c0 Q H locs cells slots D AC A ad ls hC hY hW hl h1 h2 K
  obtain ⟨cx, cb, cm, co, ct, cK, cA, cf, cl, cn, cN, cO, cT⟩ := hC
  have he : (eb_wl AC ad (n, sl, kd, I, L, Rf))[i]? = some (ad i, .inr (c, (List.range N).map (eb_fv ad (n, sl, kd, I, L, Rf) i c))) := by
    rw [eb_wl_at hi, eb_ent_obj hk hc20, hnf]
  have hv : ((List.range N).map (eb_fv ad (n, sl, kd, I, L, Rf) i c))[k]? = some (.int (I i k)) := by
    simp [hkN, eb_fv, hfk]
  rcases hlk with hlk | ⟨host, hlk⟩
  · exact va_get cx cb ct hin co cK hW.1 i he hc k hkN (ct _ hlk) (fun _ h => h) hv hd W1
  · exact va_getN cx cb ct hin co cK hW.1 i he hc k hkN (va_Nw.use rfl (cN _ hlk)) (fun _ h => h) hv hd W1
theorem eu_getR {i c k idx j : Nat} (hd : decode M.2.1 pc = .ok (.getfield idx, 3)) (hF : eb_FL M.1.cls idx c k 2) (hi : i < n) (hk : (kd i).1 = c) (hr : Rf i k = some j) (kk : eb_U M d (pc + 3) l (.ref j :: st) (n, sl, kd, I, L, Rf) pcE stE) : eb_U M d pc l (.ref i :: st) (n, sl, kd, I, L, Rf) pcE stE := by
  intro p l0 e R s m args below meth c0 Q H locs cells slots D AC A ad ls hC hY hW hl h1 h2 K
  obtain ⟨C, T, N, hc, hin, hkN, hnf, hfk, hc20, hlk⟩ := hF
  have W1 := kk p l0 e R s m args below meth c0 Q H locs cells slots D AC A ad ls hC hY hW hl h1 h2 K
  obtain ⟨cx, cb, cm, co, ct, cK, cA, cf, cl, cn, cN, cO, cT⟩ := hC
  have he : (eb_wl AC ad (n, sl, kd, I, L, Rf))[i]? = some (ad i, .inr (c, (List.range N).map (eb_fv ad (n, sl, kd, I, L, Rf) i c))) := by
    rw [eb_wl_at hi, eb_ent_obj hk hc20, hnf]
  have hv : ((List.range N).map (eb_fv ad (n, sl, kd, I, L, Rf) i c))[k]? = some (.ref (ad j)) := by
    simp [hkN, eb_fv, hfk, hr, va_rf]
  rcases hlk with hlk | ⟨host, hlk⟩
  · exact va_get cx cb ct hin co cK hW.1 i he hc k hkN (ct _ hlk) (fun _ h => h) hv hd W1
  · exact va_getN cx cb ct hin co cK hW.1 i he hc k hkN (va_Nw.use rfl (cN _ hlk)) (fun _ h => h) hv hd W1
theorem eu_call (hE : eb_E M1 d as σ r1 σ)
    (hrun : ∀ (p : Program) (l0 : Launch) (e : Env) (R : Room) (s : State) (m : MethodId) (args : Array Value) (below : List Frame) (meth : Method) (c : Code) (H : Heap) (locs : List Loc) (cells slots : Nat) (D : va_G) (AC : Nat → ClassId) (A : Nat → Prop) (ad : Nat → Nat) (ls : Array Slot), eb_C M (d + 1) l0 p R s m args meth c D AC A → eb_Y ad σ A s s.heap → eb_Wd D AC A s.heap ad σ H locs → ls.size = M.2.2.1 → cells + (σ.2.1.1 - σ.2.1.1) ≤ R.cells ∧ slots + (σ.2.1.2 - σ.2.1.2) ≤ R.slots → (∀ q, eb_A ad σ.1 H.size q → A q) →
      va_Run p l0 e R s m args below meth c H locs cells slots (σ.2.1.1 - σ.2.1.1) (σ.2.1.2 - σ.2.1.2) (F0 m pc ls (st.map (eb_mv ad))) (rest.map (eb_mv ad)) (eb_Post D AC ad σ r1 σ (eb_A ad σ.1 H.size) (as.map (eb_mv ad)).toArray) (eb_A ad σ.1 H.size)) (kk : eb_U M (d + 1) (pc + 3) l (r1.toList ++ rest) σ pcE stE) : eb_U M (d + 1) pc l st σ pcE stE := by
  intro p l0 e R s m args below meth c Q H locs cells slots D AC A ad ls hC hY hW hl h1 h2 K
  have hsub := eb_subA hW hC.2.2.2.2.2.2.1
  refine eb_after (hrun p l0 e R s m args below meth c H locs cells slots D AC A ad ls hC hY hW hl.1 ⟨by omega, by omega⟩ hsub) hW.2.2.1 hsub ?_
  intro ad1 H1 locs1 hex hP1 hD1 hwf1 hS1
  have e1 : ad1 = ad := hex.2 rfl
  subst e1
  have hst : (r1.map (eb_mv ad1)).toList ++ rest.map (eb_mv ad1) = (r1.toList ++ rest).map (eb_mv ad1) := by
    rw [List.map_append]; cases r1 <;> rfl
  rw [hst, Nat.sub_self, Nat.sub_self, Nat.add_zero, Nat.add_zero]
  exact kk p l0 e R s m args below meth c Q H1 locs1 cells slots D AC A ad1 ls hC hY ⟨hP1, hD1.weaken (fun k q _ h => hsub q.1 h), hS1, hwf1⟩ hl h1 h2 K
theorem eu_callV {i idx c n : Nat} (hE : eb_E M1 d (.ref i :: as) σ r1 σ) (hd : decode M.2.1 pc = .ok (.invokevirtual idx, 3)) (hL : eb_ML M.1.cls idx M1.1) (hM : eb_MV M1 n c) (hn : as.length = n) (hi : i < σ.1) (hk : (σ.2.2.1 i).1 = c) (hrest : (rest.map fun v => v.category).sum ≤ 8) (hst : as.reverse ++ .ref i :: rest = st) (kk : eb_U M (d + 1) (pc + 3) l (r1.toList ++ rest) σ pcE stE) : eb_U M (d + 1) pc l st σ pcE stE := by
  refine eu_call hE ?_ kk
  intro p l0 e R s m args below meth c0 H locs cells slots D AC A ad ls hC hY hW hsz hroom hsub
  obtain ⟨⟨mc1, mc2, mc3, mc4⟩, mi1, mi2, hc20, T, N, hcl⟩ := hM
  have hpre := eb_pre_of hC hY hW hsub
  obtain ⟨cx, cb, cm, co, ct, cK, cA, cf, cl, cn, cN, cO, cT⟩ := hC
  have he : (eb_wl AC ad σ)[i]? = some (ad i, .inr (c, (List.range (eb_nf c)).map (eb_fv ad σ i c))) := by
    rw [eb_wl_at hi, eb_ent_obj hk hc20]
  have hrecv := va_recv cK hW.1 hcl he
  have hR := eb_rmR (mc := σ.2.1.1 - σ.2.1.1) (ms := σ.2.1.2 - σ.2.1.2) cf cl mc4
  subst hst
  have hs : (as.reverse ++ .ref i :: rest).map (eb_mv ad) = (as.map (eb_mv ad)).reverse ++ .ref (ad i) :: rest.map (eb_mv ad) := by
    rw [List.map_append, List.map_reverse]; rfl
  rcases hL with hL | ⟨host, hL⟩
  · exact va_runV (As := as.map (eb_mv ad)) ⟨cx, cb, cm, co, ct⟩ (hE.2 l0 cT D AC ad H.size) (cwV n ct (fun w hw => by
      rcases List.mem_append.mp hw with hw | hw
      · rcases List.mem_cons.mp hw with rfl | hw
        · exact eb_good _ hL
        rcases List.mem_cons.mp hw with rfl | hw
        · exact eb_good _ mi1
        rcases List.mem_cons.mp hw with rfl | hw
        · exact eb_good _ mi2
        rcases List.mem_cons.mp hw with rfl | hw
        · exact eb_good _ mc2
        cases hw
      · exact eb_goodC mc1 w hw) rfl rfl rfl ⟨rfl, mc3⟩ hR) ⟨eb_blind _ D AC ad σ H.size, hrecv, fun U hU hWm => ⟨rfl, hpre U hU hWm⟩⟩ rfl (by rw [List.length_map]; exact hn) hsz hs (eb_mon hrest) hd hroom
  · exact va_runVN (C := M1.1.cls) (As := as.map (eb_mv ad)) ⟨cx, cb, cm, co, ct⟩ (hE.2 l0 cT D AC ad H.size) ⟨va_cnB n ct (eb_goodC mc1) rfl rfl rfl (cN _ hL) (ct _ mc2) mc3 hR, ct _ mi1, ct _ mi2⟩ ⟨eb_blind _ D AC ad σ H.size, hrecv, fun U hU hWm => ⟨rfl, hpre U hU hWm⟩⟩ rfl (by rw [List.length_map]; exact hn) hsz hs (eb_mon hrest) hd hroom
theorem eu_callS {idx n : Nat} (hE : eb_E M1 d as σ r1 σ) (hd : decode M.2.1 pc = .ok (.invokestatic idx, 3)) (hL : eb_ML M.1.cls idx M1.1) (hM : eb_MS M1 n) (hn : as.length = n) (hrest : (rest.map fun v => v.category).sum ≤ 8) (hst : as.reverse ++ rest = st) (kk : eb_U M (d + 1) (pc + 3) l (r1.toList ++ rest) σ pcE stE) : eb_U M (d + 1) pc l st σ pcE stE := by
  refine eu_call hE ?_ kk
  intro p l0 e R s m args below meth c0 H locs cells slots D AC A ad ls hC hY hW hsz hroom hsub
  obtain ⟨⟨mc1, mc2, mc3, mc4⟩, ms1⟩ := hM
  have hpre := eb_pre_of hC hY hW hsub
  obtain ⟨cx, cb, cm, co, ct, cK, cA, cf, cl, cn, cN, cO, cT⟩ := hC
  have hR := eb_rmR (mc := σ.2.1.1 - σ.2.1.1) (ms := σ.2.1.2 - σ.2.1.2) cf cl mc4
  subst hst
  have hs : (as.reverse ++ rest).map (eb_mv ad) = (as.map (eb_mv ad)).reverse ++ rest.map (eb_mv ad) := by
    rw [List.map_append, List.map_reverse]
  rcases hL with hL | ⟨host, hL⟩
  · exact va_runS (As := as.map (eb_mv ad)) ⟨cx, cb, cm, co, ct⟩ (hE.2 l0 cT D AC ad H.size) ⟨callB_of n ct (eb_goodC mc1) rfl rfl rfl (ct _ mc2) (ct _ hL) mc3 hR, ct _ ms1⟩ ⟨eb_blind _ D AC ad σ H.size, fun U hU hWm => ⟨rfl, hpre U hU hWm⟩⟩ rfl (by rw [List.length_map]; exact hn) hsz hs (eb_mon hrest) hd hroom
  · exact va_runSN (As := as.map (eb_mv ad)) ⟨cx, cb, cm, co, ct⟩ (hE.2 l0 cT D AC ad H.size) ⟨va_cnB n ct (eb_goodC mc1) rfl rfl rfl (cN _ hL) (ct _ mc2) mc3 hR, ct _ ms1, trivial⟩ ⟨eb_blind _ D AC ad σ H.size, fun U hU hWm => ⟨rfl, hpre U hU hWm⟩⟩ rfl (by rw [List.length_map]; exact hn) hsz hs (eb_mon hrest) hd hroom
end EUR
/-- the method throws, and leaves the memory -/
def eb_XM (M : eb_M) (d : Nat) (as : List Value) (σ : eb_S) : Prop := ∀ (l0 : Launch), l0.stackTraces = false → ∀ (D : va_G) (AC : Nat → ClassId) (ad : Nat → Nat) (sz : Nat), vx_Met l0 M.1 (Cond.code M.1 M.2.1 M.2.2.1 M.2.2.2 :: eb_tbl) (eb_rm d 1 6) (va_Pc (as.map (eb_mv ad)) (eb_Pre D AC ad σ sz)) (fun _ _ _ _ => False) (fun E st t => E = "java/util/NoSuchElementException" ∧ va_P D eb_cl (eb_wl AC ad σ) t.heap ∧ va_F (eb_A ad σ.1 sz) st t) 1 6 (eb_A ad σ.1 sz)
theorem eb_at1 : ∀ w ∈ (vx_at0 RX10 164 "java/util/NoSuchElementException" ["java/lang/RuntimeException", "java/lang/Exception"]).filter goodWord, w ∈ lw_tbl := by decide +kernel
theorem eb_at2 : ∀ w ∈ (vx_at0 RX10 164 "java/util/NoSuchElementException" ["java/lang/RuntimeException", "java/lang/Exception"]).filter (fun w => !goodWord w), w ∈ [Cond.castable "java/util/NoSuchElementException" "java/util/NoSuchElementException", Cond.declares (Bundle.init0 "java/lang/RuntimeException"), Cond.declares (Bundle.init0 "java/lang/Exception"), Cond.declares (Bundle.init0 Bundle.tN)] := by decide +kernel
theorem eb_cast {args : Array Value} {s : State} {E : String} {k : ClassId} (h : s.vm.findClass E = some k) : (Cond.castable E E).before args s = true := by
  simp only [Cond.before, Cond.holds, Cond.value]
  rw [h]
  have ha : s.vm.assignable k k = true := by
    show s.vm.assignableAux (255 + 1) k k = true
    rw [Vm.assignableAux]; simp
  simp [ha]
theorem eb_dec {args : Array Value} {s : State} {x : MethodName} {bytes : ByteArray} {maxL : Nat} {ret : Option FieldType} (hc : (Cond.code x bytes maxL ret).before args s = true) (hi : (Cond.instanceMethod x).before args s = true) : (Cond.declares x).before args s = true := by
  obtain ⟨mk, hnamed⟩ := Cond.code_named hc
  obtain ⟨meth, c, hmeth, -, -, -, -, -, -, hsig⟩ := Cond.code_spec hnamed hc
  obtain ⟨m2, meth2, h1, h2, hst, -⟩ := Cond.instanceMethod_spec hi
  cases Option.some.inj (hnamed.symm.trans h1)
  cases Option.some.inj (hmeth.symm.trans h2)
  simp only [Cond.before, Cond.holds, Cond.value]
  rw [hnamed]
  simp [hmeth, hst, hsig]
theorem eb_dw : ∀ w ∈ [Cond.code (Bundle.init0 "java/lang/RuntimeException") Bundle.five 1 none, Cond.instanceMethod (Bundle.init0 "java/lang/RuntimeException"), Cond.code (Bundle.init0 "java/lang/Exception") Bundle.five 1 none, Cond.instanceMethod (Bundle.init0 "java/lang/Exception"), Cond.code Bundle.tInit0 LibCode.Throwable.Init0.code 1 none, Cond.instanceMethod Bundle.tInit0], w ∈ (vx_at0 RX10 164 "java/util/NoSuchElementException" ["java/lang/RuntimeException", "java/lang/Exception"]).filter goodWord := by decide +kernel
theorem eb_fc {args : Array Value} {s : State} {E : String} {n : Nat} (h : (Cond.instantiable E n).before args s = true) : ∃ k, s.vm.findClass E = some k := by
  simp only [Cond.before, Cond.holds, Cond.value] at h
  cases hc : s.vm.findClass E with
  | none => simp [hc] at h
  | some k => exact ⟨k, rfl⟩
theorem eb_atg : ∀ w ∈ Cond.classLink RX10 162 "java/util/NoSuchElementException" :: Cond.initialized "java/util/NoSuchElementException" :: vx_at0 RX10 164 "java/util/NoSuchElementException" ["java/lang/RuntimeException", "java/lang/Exception"], vx_ot w = true := by decide +kernel
set_option maxHeartbeats 1000000 in
theorem eb_thr {M : eb_M} {d : Nat} {as : List Value} {σ : eb_S} {pcE : Nat} (hcl : M.1.cls = RX10) (hy : plainName M.1.cls = true) (hlen : (lg_sl as).length ≤ M.2.2.1) (hd : 10 ≤ d) (k : eb_U M d 0 (lv_args 0 as) [] σ pcE []) (d0 : decode M.2.1 pcE = .ok (.new 162, 3)) (d3 : decode M.2.1 (pcE + 3) = .ok (.dup, 1)) (d4 : decode M.2.1 (pcE + 4) = .ok (.invokespecial 164, 3)) (d7 : decode M.2.1 (pcE + 7) = .ok (.athrow, 1)) : eb_XM M d as σ := by
  intro l0 hfl D AC ad sz
  refine vx_ofW (cc := M.2.1) (maxL := M.2.2.1) (ret := M.2.2.2) hy rfl ?_
  intro p e s m args below meth c s₁ B hml hno hv
  obtain ⟨rfl, hsz, hP, hK, hD, hwf, hY, hN, hO⟩ := hv
  have hts := atoms_spec (ws := Cond.code M.1 M.2.1 M.2.2.1 M.2.2.2 :: eb_tbl) B.pre
  have htb : ∀ w ∈ eb_tbl, w.before (as.map (eb_mv ad)).toArray s = true := fun w hw => hts w (List.mem_cons_of_mem _ hw)
  have hown : s.vm.findClass M.1.cls = some m.cls := findClass_of_methodNamed B.named
  have hnm : meth.name = M.1.name := (name_of_methodNamed B.named B.method).1
  subst hsz
  have hl := lv_entry (as.map (eb_mv ad)) (n := M.2.2.1) (by rw [eb_sl_map]; exact hlen)
  rw [lg_entry_eq]
  generalize (lg_sl (as.map (eb_mv ad)) ++ List.replicate (M.2.2.1 - (lg_sl (as.map (eb_mv ad))).length) Slot.unset).toArray = ls at hl ⊢
  rw [eb_args_map] at hl
  refine k p l0 e _ s m _ below meth c _ s.heap [] 0 0 D AC (eb_A ad σ.1 s.heap.size) ad ls ⟨B.exec, B.bytes, hml, hown, htb, hK, fun q h => Or.inr h, Nat.le_refl _, Nat.le_refl _, hnm, hN, hO, hfl⟩ hY ⟨hP, eb_wl_D hD, va_S.rf, hwf⟩ hl (Nat.zero_le _) (Nat.zero_le _) ?_
  intro H1 locs1 hW1
  have hdw : ∀ w ∈ [Cond.code (Bundle.init0 "java/lang/RuntimeException") Bundle.five 1 none, Cond.instanceMethod (Bundle.init0 "java/lang/RuntimeException"), Cond.code (Bundle.init0 "java/lang/Exception") Bundle.five 1 none, Cond.instanceMethod (Bundle.init0 "java/lang/Exception"), Cond.code Bundle.tInit0 LibCode.Throwable.Init0.code 1 none, Cond.instanceMethod Bundle.tInit0], w.before (as.map (eb_mv ad)).toArray s = true := fun w hw => htb w (List.mem_filter.mpr ⟨eb_at1 w (eb_dw w hw), (List.mem_filter.mp (eb_dw w hw)).2⟩)
  obtain ⟨kN, hkN⟩ := eb_fc (htb _ (eb_tb5 142 rfl rfl))
  have hRf : d ≤ ((headSpec (Cond.code M.1 M.2.1 M.2.2.1 M.2.2.2 :: eb_tbl) (eb_rm d 1 6)).room).frames := Nat.le_refl _
  have hRl : 40 * d ≤ ((headSpec (Cond.code M.1 M.2.1 M.2.2.1 M.2.2.2 :: eb_tbl) (eb_rm d 1 6)).room).locals := Nat.le_refl _
  refine vx_throw0 (own := RX10) (cls := "java/util/NoSuchElementException") (names := ["java/lang/RuntimeException", "java/lang/Exception"]) (ik := 162) (ic := 164) (A := eb_A ad σ.1 s.heap.size) (rest := []) B.exec B.bytes hfl (hcl ▸ hown) (by decide +kernel) (by decide +kernel) (htb _ (eb_tb5 141 rfl rfl)) (htb _ (eb_tb1 22 rfl rfl)) (vx_hat (fun w hw => htb w (List.mem_filter.mpr ⟨eb_at1 w hw, (List.mem_filter.mp hw).2⟩)) eb_at2 (vx_c (eb_cast hkN) (vx_c (eb_dec (hdw _ (List.mem_of_getElem? (i := 0) rfl)) (hdw _ (List.mem_of_getElem? (i := 1) rfl))) (vx_c (eb_dec (hdw _ (List.mem_of_getElem? (i := 2) rfl)) (hdw _ (List.mem_of_getElem? (i := 3) rfl))) (vx_c (eb_dec (x := Bundle.tInit0) (hdw _ (List.mem_of_getElem? (i := 4) rfl)) (hdw _ (List.mem_of_getElem? (i := 5) rfl))) vx_n))))) eb_atg hY.2.2.2.2.2.2.1 hY.2.2.2.2.2.2.2 hW1.2.2.1 (hl.1.trans hml.symm) d0 d3 d4 d7 (fun x hx => (hno x hx).elim) (Nat.lt_of_lt_of_le (by show 2 + 3 < d; omega) hRf) (Nat.le_trans (by show 0 + (13 * (2 + 1) + 42) ≤ 40 * d; omega) hRl) (Nat.le_refl _) (Nat.le_refl _) B.notSynchronized ?_ (fun z hz => hW1.2.2.1.2.2 z hz) (Nat.le_refl _) (Nat.le_refl _)
  intro t _ hge hsm
  refine ⟨rfl, hW1.1.kept (fun j q hq => hsm q.1 (vx_lt hW1.1 hq)), Nat.le_trans hW1.2.2.1.1 hge, fun q h1 h2 => ?_⟩
  rw [hsm q (Nat.lt_of_lt_of_le h1 hW1.2.2.1.1)]
  exact hW1.2.2.1.2.1 q h1 h2
/-- the contract of a method with handlers -/
def eb_EW (M : eb_M) (hh : List (Nat × Nat × Nat × Nat)) (d : Nat) (as : List Value) (σ : eb_S) (r : Option Value) (τ : eb_S) : Prop :=
  eb_mo σ τ ∧ ∀ (l0 : Launch), l0.stackTraces = false → ∀ (D : va_G) (AC : Nat → ClassId) (ad : Nat → Nat) (sz : Nat), Met l0 M.1 (Cond.codeWith M.1 M.2.1 M.2.2.1 M.2.2.2 hh :: eb_tbl) (eb_rm d (τ.2.1.1 - σ.2.1.1) (τ.2.1.2 - σ.2.1.2)) (va_Pc (as.map (eb_mv ad)) (eb_Pre D AC ad σ sz)) (eb_Post D AC ad σ r τ (eb_A ad σ.1 sz)) (τ.2.1.1 - σ.2.1.1) (τ.2.1.2 - σ.2.1.2) (eb_A ad σ.1 sz)
set_option maxHeartbeats 1000000 in
theorem eb_methW {M : eb_M} {hh : List (Nat × Nat × Nat × Nat)} {d : Nat} {as : List Value} {σ : eb_S} {r : Option Value} {τ : eb_S} (hy : plainName M.1.cls = true) (hlen : (lg_sl as).length ≤ M.2.2.1) (k : eb_V M d 0 (lv_args 0 as) [] σ r τ) : eb_EW M hh d as σ r τ := by
  refine ⟨k.1, fun l0 hfl D AC ad sz => ?_⟩
  refine va_MetW (cc := M.2.1) (maxL := M.2.2.1) (ret := M.2.2.2) (hh := hh) hy rfl ?_
  intro p e s m args below meth c s₁ B hml hv
  obtain ⟨rfl, hsz, hP, hK, hD, hwf, hY, hN, hO⟩ := hv
  have hts := atoms_spec (ws := Cond.codeWith M.1 M.2.1 M.2.2.1 M.2.2.2 hh :: eb_tbl) B.pre
  have hown : s.vm.findClass M.1.cls = some m.cls := findClass_of_methodNamed B.named
  have hnm : meth.name = M.1.name := (name_of_methodNamed B.named B.method).1
  have hlocks := B.notSynchronized
  subst hsz
  have hl := lv_entry (as.map (eb_mv ad)) (n := M.2.2.1) (by rw [eb_sl_map]; exact hlen)
  rw [lg_entry_eq]
  generalize (lg_sl (as.map (eb_mv ad)) ++ List.replicate (M.2.2.1 - (lg_sl (as.map (eb_mv ad))).length) Slot.unset).toArray = ls at hl ⊢
  rw [eb_args_map] at hl
  refine k.2 p l0 e _ s m _ below meth c _ s.heap [] 0 0 D AC (eb_A ad σ.1 s.heap.size) ad ls ⟨B.exec, B.bytes, hml, hown, fun w hw => hts w (List.mem_cons_of_mem _ hw), hK, fun q h => Or.inr h, Nat.le_refl _, Nat.le_refl _, hnm, hN, hO, hfl⟩ hY ⟨hP, eb_wl_D hD, va_S.rf, hwf⟩ hl (by rw [Nat.zero_add]; exact Nat.le_refl _) (by rw [Nat.zero_add]; exact Nat.le_refl _) ?_
  intro H1 locs1 ad1 ls1 pc1 hex hW1 hret
  rw [Nat.zero_add, Nat.zero_add]
  have hend : ∀ v : Option Value, v = r.map (eb_mv ad1) → ∀ t : State, t.heap = H1 → s.WarmedH t.vm → eb_Post D AC ad σ r τ (eb_A ad σ.1 s.heap.size) (as.map (eb_mv ad)).toArray s (.returned v) t := by
    intro v hv t ht hWm
    exact ⟨⟨ad1, hex, by rw [hv], by rw [ht]; exact hW1.1, hW1.2.1, hW1.2.2.2⟩, hW1.2.2.1.F ht⟩
  match r, hret, hend with
  | none, hret, hend => exact W.vret B.exec B.bytes (B.returns.trans hret.2) (hend none rfl) hW1.2.2.1.2.2 hret.1
  | some (.int x), hret, hend =>
    obtain ⟨hd, ty, ht, hn⟩ := hret
    exact W.zret (v := x) B.exec B.bytes (B.returns.trans ht) hn (hend (some (.int x)) rfl) hW1.2.2.1.2.2 hd
  | some (.long x), hret, hend => exact W.lret (v := x) B.exec B.bytes (B.returns.trans hret.2) (hend (some (.long x)) rfl) hW1.2.2.1.2.2 hret.1
  | some (.ref x), hret, hend =>
    obtain ⟨hd, ty, ht, hn⟩ := hret
    exact W.aret (v := .ref (ad1 x)) B.exec B.bytes (B.returns.trans ht) hn (Or.inr ⟨_, rfl⟩) (hend (some (.ref (ad1 x))) rfl) hW1.2.2.1.2.2 hd
  | some .null, hret, _ => exact False.elim hret
  | some (.float _), hret, _ => exact False.elim hret
  | some (.double _), hret, _ => exact False.elim hret
  | some (.retAddr _), hret, _ => exact False.elim hret
/-- the callee throws, and it is caught: 1 is answered -/
def eb_up (σ : eb_S) : eb_S := (σ.1, (σ.2.1.1 + 1, σ.2.1.2 + 6), σ.2.2)
set_option maxHeartbeats 2000000 in
theorem eb_catch {M M1 : eb_M} {d pcE pcH i n cx idx iH : Nat} {as as1 rest stE : List Value} {σ : eb_S} {hh : List (Nat × Nat × Nat × Nat)} (hcl : M.1.cls = RL) (hy : plainName M.1.cls = true) (hlen : (lg_sl as).length ≤ M.2.2.1) (k : eb_U M (d + 1) 0 (lv_args 0 as) [] σ pcE stE) (hst : as1.reverse ++ .ref i :: rest = stE) (hrest : (rest.map fun v => v.category).sum ≤ 8)
    (hX : eb_XM M1 d (.ref i :: as1) σ) (hd : decode M.2.1 pcE = .ok (.invokevirtual idx, 3)) (hL : Cond.methodLink M.1.cls idx M1.1 ∈ eb_tbl) (hM : eb_MV M1 n cx) (hn : as1.length = n) (hi : i < σ.1) (hk : (σ.2.2.1 i).1 = cx)
    (hcw : Cond.codeWith M.1 M.2.1 M.2.2.1 M.2.2.2 hh ∈ eb_tbl) (x : ExceptionTableEntry) (htab : tableOf hh = [x]) (hcov : covers x pcE = true) (hct : x.catchType = 13) (hhp : x.handlerPc = pcH)
    (hH : ∃ ln, decode M.2.1 (pcH + ln) = .ok (.iconst 1, 1) ∧ decode M.2.1 (pcH + ln + 1) = .ok (.ireturn, 1) ∧ iH < M.2.2.1 ∧ ((ln = 2 ∧ decode M.2.1 pcH = .ok (.astore iH, 2)) ∨ (ln = 1 ∧ ∃ kk : Fin 4, (kk : Nat) = iH ∧ decode M.2.1 pcH = .ok (.astore_n kk, 1)))) (hret : M.2.2.2 = some .int) : eb_EW M hh (d + 1) as σ (some (.int 1)) (eb_up σ) := by
  refine ⟨⟨Nat.le_refl _, ⟨Nat.le_add_right _ _, Nat.le_add_right _ _⟩, fun _ _ => ⟨rfl, rfl⟩⟩, fun l0 hfl D AC ad sz => ?_⟩
  have em1 : (eb_up σ).2.1.1 - σ.2.1.1 = 1 := by show σ.2.1.1 + 1 - σ.2.1.1 = 1; omega
  have em2 : (eb_up σ).2.1.2 - σ.2.1.2 = 6 := by show σ.2.1.2 + 6 - σ.2.1.2 = 6; omega
  rw [em1, em2]
  refine va_MetW (cc := M.2.1) (maxL := M.2.2.1) (ret := M.2.2.2) (hh := hh) hy rfl ?_
  intro p e s m args below meth c s₁ B hml hv
  obtain ⟨rfl, hsz, hP, hK, hD, hwf, hY, hN, hO⟩ := hv
  have hts := atoms_spec (ws := Cond.codeWith M.1 M.2.1 M.2.2.1 M.2.2.2 hh :: eb_tbl) B.pre
  have htb : ∀ w ∈ eb_tbl, w.before (as.map (eb_mv ad)).toArray s = true := fun w hw => hts w (List.mem_cons_of_mem _ hw)
  have hown : s.vm.findClass M.1.cls = some m.cls := findClass_of_methodNamed B.named
  have hnm : meth.name = M.1.name := (name_of_methodNamed B.named B.method).1
  have htb2 : c.exceptionTable.toList = [] ++ x :: [] := by rw [vx_table (x := M.1) B (htb _ hcw), htab]; rfl
  subst hsz
  have hl := lv_entry (as.map (eb_mv ad)) (n := M.2.2.1) (by rw [eb_sl_map]; exact hlen)
  rw [lg_entry_eq]
  generalize (lg_sl (as.map (eb_mv ad)) ++ List.replicate (M.2.2.1 - (lg_sl (as.map (eb_mv ad))).length) Slot.unset).toArray = ls at hl ⊢
  rw [eb_args_map] at hl
  have hC : eb_C M (d + 1) l0 p (headSpec (Cond.codeWith M.1 M.2.1 M.2.2.1 M.2.2.2 hh :: eb_tbl) (eb_rm (d + 1) 1 6)).room s m (as.map (eb_mv ad)).toArray meth c D AC (eb_A ad σ.1 s.heap.size) := ⟨B.exec, B.bytes, hml, hown, htb, hK, fun q h => Or.inr h, Nat.le_refl _, Nat.le_refl _, hnm, hN, hO, hfl⟩
  refine k p l0 e _ s m _ below meth c _ s.heap [] 0 0 D AC (eb_A ad σ.1 s.heap.size) ad ls hC hY ⟨hP, eb_wl_D hD, va_S.rf, hwf⟩ hl (Nat.zero_le _) (Nat.zero_le _) ?_
  intro H locs hW
  have hsub := eb_subA hW hC.2.2.2.2.2.2.1
  have hpre := eb_pre_of hC hY hW hsub
  obtain ⟨⟨mc1, mc2, mc3, mc4⟩, mi1, mi2, hc20, T0, N0, hcl0⟩ := hM
  have he : (eb_wl AC ad σ)[i]? = some (ad i, .inr (cx, (List.range (eb_nf cx)).map (eb_fv ad σ i cx))) := by
    rw [eb_wl_at hi, eb_ent_obj hk hc20]
  have hrecv := va_recv hK hW.1 hcl0 he
  have hR := eb_rmR (d := d) (maxL := M1.2.2.1) (R := (headSpec (Cond.codeWith M.1 M.2.1 M.2.2.1 M.2.2.2 hh :: eb_tbl) (eb_rm (d + 1) 1 6)).room) (mc := 1) (ms := 6) (Nat.le_refl _) (Nat.le_refl _) mc4
  have hs : stE.map (eb_mv ad) = (as1.map (eb_mv ad)).reverse ++ .ref (ad i) :: rest.map (eb_mv ad) := by
    rw [← hst, List.map_append, List.map_reverse]; rfl
  have hrun := vx_runV (As := as1.map (eb_mv ad)) (below := below) (e := e) (meth := meth) (cells := 0) (slots := 0) (locs := locs) (g := F0 m pcE ls (stE.map (eb_mv ad))) (rest := rest.map (eb_mv ad)) ⟨B.exec, B.bytes, hml, hown, htb⟩ (hX l0 hfl D AC ad H.size) (cwV n htb (fun w hw => by
      rcases List.mem_append.mp hw with hw | hw
      · rcases List.mem_cons.mp hw with rfl | hw
        · exact eb_good _ hL
        rcases List.mem_cons.mp hw with rfl | hw
        · exact eb_good _ mi1
        rcases List.mem_cons.mp hw with rfl | hw
        · exact eb_good _ mi2
        rcases List.mem_cons.mp hw with rfl | hw
        · exact eb_good _ mc2
        cases hw
      · exact eb_goodC mc1 w hw) rfl rfl rfl ⟨rfl, mc3⟩ hR) ⟨eb_blind _ D AC ad σ H.size, hrecv, fun U hU hWm => ⟨rfl, hpre U hU hWm⟩⟩ rfl (by rw [List.length_map]; exact hn) hl.1 hs (eb_mon hrest) hd ⟨Nat.le_refl _, Nat.le_refl _⟩
  intro T hT X
  rcases hrun T hT X with ⟨v, st₀, t, T', L, h0, X', hL', e1, e2, hF, st⟩ | ⟨q, st₀, t, T', L, E, ce, h0, X', hL', e1, e2, ⟨hE, hP1, hF⟩, hce, hcv, hcle, st⟩
  · exact hF.elim
  · have hk3 := vx_keep h0 e1 hW.2.2.1 (fun q _ h => hsub q h) hsub hL' hF
    have hWd : eb_Wd D AC (eb_A ad σ.1 s.heap.size) s.heap ad (eb_up σ) T'.heap (locs ++ L) := ⟨by rw [e1]; exact hP1, hW.2.1, hk3.2.2, hW.2.2.2⟩
    have hend : ∀ v : Option Value, v = some (.int 1) → ∀ t : State, t.heap = T'.heap → s.WarmedH t.vm → eb_Post D AC ad σ (some (.int 1)) (eb_up σ) (eb_A ad σ.1 s.heap.size) (as.map (eb_mv ad)).toArray s (.returned v) t := by
      intro v hv t ht hWm
      exact ⟨⟨ad, eb_ex.rf ad _ _, by rw [hv]; rfl, by rw [ht]; exact hWd.1, hWd.2.1, hWd.2.2.2⟩, hWd.2.2.1.F ht⟩
    obtain ⟨ln, dA, dB, hiH, dC⟩ := hH
    have hfin : ∀ ls2 : Array Slot, W p l0 e (headSpec (Cond.codeWith M.1 M.2.1 M.2.2.1 M.2.2.2 hh :: eb_tbl) (eb_rm (d + 1) 1 6)).room s m (as.map (eb_mv ad)).toArray below meth c T'.heap (locs ++ L) (0 + 1) (0 + 6) (MQ below (eb_Post D AC ad σ (some (.int 1)) (eb_up σ) (eb_A ad σ.1 s.heap.size)) (as.map (eb_mv ad)).toArray s 1 6 (eb_A ad σ.1 s.heap.size)) (F0 m (pcH + ln) ls2 []) := by
      intro ls2
      refine lv_iconst (v := 1) B.exec B.bytes dA (by decide) ?_
      exact W.zret (v := 1) B.exec B.bytes (B.returns.trans hret) rfl (hend (some (.int 1)) rfl) hWd.2.2.1.2.2 dB
    have hcat : vx_W p l0 e (headSpec (Cond.codeWith M.1 M.2.1 M.2.2.1 M.2.2.2 hh :: eb_tbl) (eb_rm (d + 1) 1 6)).room s m (as.map (eb_mv ad)).toArray below meth c T'.heap (locs ++ L) (0 + 1) (0 + 6) (MQ below (eb_Post D AC ad σ (some (.int 1)) (eb_up σ) (eb_A ad σ.1 s.heap.size)) (as.map (eb_mv ad)).toArray s 1 6 (eb_A ad σ.1 s.heap.size)) (F0 m pcE ls (rest.map (eb_mv ad))) q := by
      refine vx_catch (own := RL) (name := "java/util/NoSuchElementException") (E := E) (ce := ce) (hcl ▸ hown) [] x [] htb2 (fun z hz => nomatch hz) hcov (by rw [hct]; decide) (by rw [hct]; exact htb _ (eb_tb5 136 rfl rfl)) (by rw [hE] at hcle ⊢; exact eb_cast hcle) (by rw [e1]; exact hce) hcv hcle ?_
      rw [hhp]
      rcases dC with ⟨e3, dD⟩ | ⟨e3, kk, hkk, dD⟩
      · subst e3
        exact lv_astore B.exec B.bytes dD hl hiH rfl (fun ls2 _ => hfin ls2)
      · subst e3
        exact lv_astore_n B.exec B.bytes dD hkk hl hiH rfl (fun ls2 _ => hfin ls2)
    obtain ⟨t2, a1, b1⟩ := hcat T' rfl X'
    exact ⟨t2, st.trans a1, b1⟩
theorem eb_callG {M : eb_M} {d pc : Nat} {l : List (Nat × Value)} {st rest as : List Value} {σ σ1 : eb_S} {r r1 : Option Value} {τ : eb_S} (hmo : eb_mo σ σ1)
    (hrun : ∀ (p : Program) (l0 : Launch) (e : Env) (R : Room) (s : State) (m : MethodId) (args : Array Value) (below : List Frame) (meth : Method) (c : Code) (H : Heap) (locs : List Loc) (cells slots : Nat) (D : va_G) (AC : Nat → ClassId) (A : Nat → Prop) (ad : Nat → Nat) (ls : Array Slot), eb_C M (d + 1) l0 p R s m args meth c D AC A → eb_Y ad σ A s s.heap → eb_Wd D AC A s.heap ad σ H locs → ls.size = M.2.2.1 → cells + (σ1.2.1.1 - σ.2.1.1) ≤ R.cells ∧ slots + (σ1.2.1.2 - σ.2.1.2) ≤ R.slots → (∀ q, eb_A ad σ.1 H.size q → A q) →
      va_Run p l0 e R s m args below meth c H locs cells slots (σ1.2.1.1 - σ.2.1.1) (σ1.2.1.2 - σ.2.1.2) (F0 m pc ls (st.map (eb_mv ad))) (rest.map (eb_mv ad)) (eb_Post D AC ad σ r1 σ1 (eb_A ad σ.1 H.size) (as.map (eb_mv ad)).toArray) (eb_A ad σ.1 H.size))
    (hok : σ1.1 = σ.1 ∨ ((∀ q ∈ l, eb_okv σ.1 q.2) ∧ ∀ v ∈ rest, eb_okv σ.1 v)) (kk : eb_V M (d + 1) (pc + 3) l (r1.toList ++ rest) σ1 r τ) : eb_V M (d + 1) pc l st σ r τ := by
  refine ⟨hmo.tr kk.1, fun p l0 e R s m args below meth c Q H locs cells slots D AC A ad ls hC hY hW hl h1 h2 K => ?_⟩
  obtain ⟨m1, ⟨m2, m2'⟩, m3⟩ := hmo
  obtain ⟨n1, ⟨n2, n2'⟩, n3⟩ := kk.1
  have hsub := eb_subA hW hC.2.2.2.2.2.2.1
  refine eb_after (hrun p l0 e R s m args below meth c H locs cells slots D AC A ad ls hC hY hW hl.1 ⟨by omega, by omega⟩ hsub) hW.2.2.1 hsub ?_
  intro ad1 H1 locs1 hex hP1 hD1 hwf1 hS1
  have hmv : (l.map (fun q => (q.1, eb_mv ad1 q.2)) = l.map (fun q => (q.1, eb_mv ad q.2))) ∧ rest.map (eb_mv ad1) = rest.map (eb_mv ad) := by
    rcases hok with h | ⟨g1, g2⟩
    · rw [hex.2 h]; exact ⟨rfl, rfl⟩
    · exact ⟨List.map_congr_left (fun q hq => by rw [eb_okv_mv hex (g1 q hq)]), List.map_congr_left (fun v hv => eb_okv_mv hex (g2 v hv))⟩
  have hst : (r1.map (eb_mv ad1)).toList ++ rest.map (eb_mv ad) = (r1.toList ++ rest).map (eb_mv ad1) := by
    rw [List.map_append, hmv.2]
    cases r1 <;> rfl
  rw [hst]
  have hY1 : eb_Y ad1 σ1 A s s.heap := by
    obtain ⟨y1, y2, y3, y4, y5, y6, y7, y8⟩ := hY
    have ea : ∀ j, 1000000 ≤ j → ad1 j = ad j := fun j hj => hex.1 j (Or.inr hj)
    refine ⟨?_, ?_, ?_, y4, ?_, by rw [ea _ (by omega)]; exact y6, y7, y8⟩
    · rw [show (fun i => ad1 (1000000 + i)) = fun i => ad (1000000 + i) from funext fun i => ea _ (Nat.le_add_right _ _), show (fun i => ad1 (1000020 + i)) = fun i => ad (1000020 + i) from funext fun i => ea _ (by omega)]
      exact y1
    · intro q hq
      rw [ea _ (Nat.le_add_right _ _)]
      exact y2 q hq
    · rw [ea _ (by omega)]
      exact y3
    · intro j hj
      rw [ea _ (by omega), (m3 j (by omega)).1, (m3 j (by omega)).2]
      exact y5 j hj
  refine kk.2 p l0 e R s m args below meth c Q H1 locs1 _ _ D AC A ad1 ls hC hY1 ⟨hP1, hD1.weaken (fun k q _ h => hsub q.1 h), hS1, hwf1⟩ (by rw [hmv.1]; exact hl) (by omega) (by omega) ?_
  intro H2 locs2 ad2 ls2 pc2 hex2 hW2 hret
  rw [show cells + (σ1.2.1.1 - σ.2.1.1) + (τ.2.1.1 - σ1.2.1.1) = cells + (τ.2.1.1 - σ.2.1.1) by omega, show slots + (σ1.2.1.2 - σ.2.1.2) + (τ.2.1.2 - σ1.2.1.2) = slots + (τ.2.1.2 - σ.2.1.2) by omega]
  refine K H2 locs2 ad2 ls2 pc2 ⟨fun i hi => ?_, fun h => ?_⟩ hW2 hret
  · exact (hex2.1 i (hi.elim (fun h => Or.inl (by omega)) Or.inr)).trans (hex.1 i hi)
  · exact (hex2.2 (by omega)).trans (hex.2 (by omega))
theorem eb_callSW {M M1 : eb_M} {hh : List (Nat × Nat × Nat × Nat)} {d pc idx n : Nat} {l : List (Nat × Value)} {st rest as : List Value} {σ σ1 : eb_S} {r r1 : Option Value} {τ : eb_S} (hE : eb_EW M1 hh d as σ r1 σ1) (hd : decode M.2.1 pc = .ok (.invokestatic idx, 3)) (hL : Cond.methodLink M.1.cls idx M1.1 ∈ eb_tbl) (hcw : Cond.codeWith M1.1 M1.2.1 M1.2.2.1 M1.2.2.2 hh ∈ eb_tbl) (hini : Cond.initialized M1.1.cls ∈ eb_tbl) (hsta : Cond.static M1.1 ∈ eb_tbl) (hy : M1.1.cls ≠ "java/lang/invoke/MethodHandle" ∧ M1.1.cls ≠ "java/lang/invoke/VarHandle" ∧ (parseMethodDescriptor M1.1.desc).map (fun d => d.parameters.length) = some n) (hm21 : M1.2.2.1 ≤ 21) (hn : as.length = n) (hrest : (rest.map fun v => v.category).sum ≤ 8) (hst : as.reverse ++ rest = st)
    (hok : σ1.1 = σ.1 ∨ ((∀ q ∈ l, eb_okv σ.1 q.2) ∧ ∀ v ∈ rest, eb_okv σ.1 v)) (kk : eb_V M (d + 1) (pc + 3) l (r1.toList ++ rest) σ1 r τ) : eb_V M (d + 1) pc l st σ r τ := by
  refine eb_callG (as := as) hE.1 ?_ hok kk
  intro p l0 e R s m args below meth c0 H locs cells slots D AC A ad ls hC hY hW hsz hroom hsub
  have hpre := eb_pre_of hC hY hW hsub
  obtain ⟨cx, cb, cm, co, ct, cK, cA, cf, cl, cn, cN, cO, cT⟩ := hC
  have hR := eb_rmR (mc := σ1.2.1.1 - σ.2.1.1) (ms := σ1.2.1.2 - σ.2.1.2) cf cl hm21
  subst hst
  have hs : (as.reverse ++ rest).map (eb_mv ad) = (as.map (eb_mv ad)).reverse ++ rest.map (eb_mv ad) := by
    rw [List.map_append, List.map_reverse]
  have hgW : GoodIn eb_tbl (Cond.codeWith M1.1 M1.2.1 M1.2.2.1 M1.2.2.2 hh :: eb_tbl) := fun w hw => (List.mem_cons.mp hw).elim (fun e => by rw [e]; exact eb_good _ hcw) (fun h => eb_good w h)
  exact vx_runSW (As := as.map (eb_mv ad)) ⟨cx, cb, cm, co, ct⟩ (hE.2 l0 cT D AC ad H.size) (vx_cwSW n ct (fun w hw => by
    unfold va_wsS at hw
    rcases List.mem_append.mp hw with hw | hw
    · rcases List.mem_cons.mp hw with rfl | hw
      · exact eb_good _ hL
      rcases List.mem_cons.mp hw with rfl | hw
      · exact eb_good _ hsta
      rcases List.mem_cons.mp hw with rfl | hw
      · exact eb_good _ hini
      cases hw
    · exact hgW w hw) rfl rfl rfl hy hR) ⟨eb_blind _ D AC ad σ H.size, fun U hU hWm => ⟨rfl, hpre U hU hWm⟩⟩ rfl (by rw [List.length_map]; exact hn) hsz hs (eb_mon hrest) hd hroom
