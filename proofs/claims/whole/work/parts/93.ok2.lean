/-! what the calls leave is in its ranges: those that change -/
theorem o_steps {H : Nat} {T : zT} (hO : zOk H T) (v : Int32) : zOk H (s_steps T v).2 := by
  unfold s_steps
  repeat' split
  all_goals first | exact hO | exact hO.wrw (by decide) | exact hO.wrw (by simp)
theorem zOk.wun {H : Nat} {T : zT} (h : zOk H T) {un : List (Nat → Int32)} (hl : un.length ≤ 12) (hm : ∀ y ∈ un, zxr T.c H y) : zOk H (T.w_un un) := ⟨h.txl, h.tx, h.rwl, h.pr, h.wm, h.wd, h.c, h.x, hl, hm, h.kp, h.snl, h.sn, h.hdl, h.hd, h.rv⟩
theorem zOk.wkp {H : Nat} {T : zT} (h : zOk H T) {kp : Nat → Option (Nat → Int32)} (hm : ∀ i y, kp i = some y → zxr T.c H y) : zOk H (T.w_kp kp) := ⟨h.txl, h.tx, h.rwl, h.pr, h.wm, h.wd, h.c, h.x, h.unl, h.un, hm, h.snl, h.sn, h.hdl, h.hd, h.rv⟩
theorem zpush_l {un : List (Nat → Int32)} {y : Nat → Int32} (h : un.length ≤ 12) : (zpush un y).length ≤ 12 := by
  unfold zpush
  split
  · rw [List.length_append]; simp only [List.length_cons, List.length_nil]; omega
  · rw [List.length_append]; simp only [List.length_cons, List.length_nil, List.length_tail]; omega
theorem zpush_m {un : List (Nat → Int32)} {y z : Nat → Int32} (h : z ∈ zpush un y) : z ∈ un ∨ z = y := by
  unfold zpush at h
  split at h
  · rcases List.mem_append.mp h with g | g
    · exact Or.inl g
    · exact Or.inr (List.mem_singleton.mp g)
  · rcases List.mem_append.mp h with g | g
    · exact Or.inl (List.mem_of_mem_tail g)
    · exact Or.inr (List.mem_singleton.mp g)
theorem zOk.psh {H : Nat} {T : zT} (h : zOk H T) {y : Nat → Int32} (hy : zxr T.c H y) : zOk H (T.w_un (zpush T.un y)) := h.wun (zpush_l h.unl) (fun z hz => (zpush_m hz).elim (h.un z) (fun e => e ▸ hy))
theorem zOk.rm {H : Nat} {T : zT} (h : zOk H T) {q : Int32 × (Nat → Int32)} (hq : zxr T.c H q.2) : zOk H (zrm T q) := by
  unfold zrm
  split
  · exact h.wx hq
  · exact (h.psh h.x).wx hq
theorem o_tells {H : Nat} {T : zT} (hO : zOk H T) (b t : Int32) : zOk H (s_tells T b t).2 := by rw [s_tells_q hO]; exact hO.rm (q_tell_xr hO b t)
theorem o_moves {H : Nat} {T : zT} (hO : zOk H T) (b t : Int32) : zOk H (s_moves T b t).2 := by rw [s_moves_q hO]; exact hO.rm (q_move_xr hO b t)
theorem o_eases {H : Nat} {T : zT} (hO : zOk H T) (b : Int32) : zOk H (s_eases T b).2 := by rw [s_eases_q hO]; exact hO.rm (q_ease_xr hO b)
theorem o_preaches {H : Nat} {T : zT} (hO : zOk H T) (b t : Int32) : zOk H (s_preaches T b t).2 := by rw [s_preaches_q hO]; exact hO.rm (q_preach_xr hO b t)
theorem o_sails {H : Nat} {T : zT} (hO : zOk H T) (t : Int32) : zOk H (s_sails T t).2 := by rw [s_sails_q hO]; exact hO.rm (q_sail_xr hO t)
theorem o_undo {H : Nat} {T : zT} (hO : zOk H T) : zOk H (s_undo T).2 := by
  unfold s_undo
  split
  · exact hO
  · next y hy =>
    have hm : y ∈ T.un := List.mem_of_getLast? hy
    exact (hO.wun (un := T.un.dropLast) (by rw [List.length_dropLast]; have := hO.unl; omega) (fun z hz => hO.un z ((List.dropLast_sublist T.un).subset hz))).wx (hO.un y hm)
theorem o_keep {H : Nat} {T : zT} (hO : zOk H T) (i : Int32) : zOk H (s_keep T i).2 := by
  unfold s_keep
  split
  · refine hO.wkp (fun q y e => ?_)
    by_cases g : q = i.toNatClampNeg
    · rw [if_pos g] at e; cases e; exact hO.x
    · rw [if_neg g] at e; exact hO.kp q y e
  · exact hO
theorem o_again {H : Nat} {T : zT} (hO : zOk H T) (i : Int32) : zOk H (s_again T i).2 := by
  unfold s_again
  split
  · split
    · exact hO
    · next y hy => exact (hO.wun (un := []) (Nat.zero_le _) (fun z hz => by cases hz)).wx (hO.kp _ y hy)
  · exact hO
theorem o_denies {H : Nat} {T : zT} (h : zOk H T) : zOk H (s_denies T).2 := ⟨h.txl, h.tx, h.rwl, h.pr, h.wm, h.wd, h.c, h.x, h.unl, h.un, h.kp, Nat.zero_le _, fun q hq => (nomatch hq), h.hdl, h.hd, h.rv⟩
theorem o_forget {H : Nat} {T : zT} (h : zOk H T) : zOk H (s_forget T).2 := ⟨h.txl, h.tx, h.rwl, h.pr, h.wm, h.wd, h.c, h.x, h.unl, h.un, h.kp, h.snl, h.sn, Nat.zero_le _, fun q hq => (nomatch hq), h.rv⟩
theorem o_saw {H : Nat} {T : zT} (h : zOk H T) (w s v : Int32) : zOk H (s_saw T w s v).2 := by
  unfold s_saw
  split
  · next g =>
    refine ⟨h.txl, h.tx, h.rwl, h.pr, h.wm, h.wd, h.c, h.x, h.unl, h.un, h.kp, ?_, fun q hq => ?_, h.hdl, h.hd, h.rv⟩
    · show (T.sn ++ [(w, s, v)]).length ≤ 10
      rw [List.length_append]; simp only [List.length_cons, List.length_nil]; omega
    · rcases List.mem_append.mp (show q ∈ T.sn ++ [(w, s, v)] from hq) with e | e
      · exact h.sn q e
      · rw [List.mem_singleton.mp e]; exact g.1
  · exact h
theorem o_hours {H : Nat} {T : zT} (hO : zOk H T) (v : Int32) : zOk (H + 60) (s_hours T v).2 := by
  unfold s_hours
  split
  · next g =>
    obtain ⟨n0, _, hn, rfl⟩ := z_pk1 (lo := 0) (N := 60) (by rw [nI_0]; exact g) (by decide) (by decide)
    rw [nI_clamp (by omega)]
    have hx := (zhk_xr hO.x hO.wm.1 hO.wd hO.c n0).le (H2 := H + 60) (by omega)
    have hL := hO.le (H2 := H + 60) (by omega)
    split
    · exact (hL.wx hx).wrw (by simp)
    · exact ((hL.psh hL.x).wx hx).wrw (by simp)
  · exact hO.le (by omega)
