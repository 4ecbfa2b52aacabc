/-! what the calls leave is in its ranges: those that tell alone -/
theorem zOk.wrw {H : Nat} {T : zT} (h : zOk H T) {r : List Int64} (hr : r.length ≤ 8) : zOk H (T.w_rw r) := ⟨h.txl, h.tx, hr, h.pr, h.wm, h.wd, h.c, h.x, h.unl, h.un, h.kp, h.snl, h.sn, h.hdl, h.hd, h.rv⟩
theorem o_later {H : Nat} {T : zT} (hO : zOk H T) (n : Int32) : zOk H (s_later T n).2 := by
  unfold s_later
  repeat' split
  all_goals first | exact hO | exact hO.wrw (by decide) | exact hO.wrw (by simp)
theorem o_over {H : Nat} {T : zT} (hO : zOk H T) : zOk H (s_over T).2 := by
  unfold s_over
  repeat' split
  all_goals first | exact hO | exact hO.wrw (by decide) | exact hO.wrw (by simp)
theorem o_makes {H : Nat} {T : zT} (hO : zOk H T) (v : Int32) : zOk H (s_makes T v).2 := by
  unfold s_makes
  repeat' split
  all_goals first | exact hO | exact hO.wrw (by decide) | exact hO.wrw (by simp)
theorem o_when {H : Nat} {T : zT} (hO : zOk H T) (v : Int32) : zOk H (s_when T v).2 := by
  unfold s_when
  repeat' split
  all_goals first | exact hO | exact hO.wrw (by decide) | exact hO.wrw (by simp)
theorem o_rolls {H : Nat} {T : zT} (hO : zOk H T) (n : Int32) : zOk H (s_rolls T n).2 := by
  unfold s_rolls
  repeat' split
  all_goals first | exact hO | exact hO.wrw (by decide) | exact hO.wrw (by simp)
theorem o_steady {H : Nat} {T : zT} (hO : zOk H T) (n v : Int32) : zOk H (s_steady T n v).2 := by
  unfold s_steady
  repeat' split
  all_goals first | exact hO | exact hO.wrw (by decide) | exact hO.wrw (by simp)
theorem o_best {H : Nat} {T : zT} (hO : zOk H T) (n : Int32) : zOk H (s_best T n).2 := by
  unfold s_best
  repeat' split
  all_goals first | exact hO | exact hO.wrw (by decide) | exact hO.wrw (by simp)
theorem o_trims {H : Nat} {T : zT} (hO : zOk H T) (b : Int32) : zOk H (s_trims T b).2 := by
  unfold s_trims
  repeat' split
  all_goals first | exact hO | exact hO.wrw (by decide) | exact hO.wrw (by simp)
theorem o_frees {H : Nat} {T : zT} (hO : zOk H T) : zOk H (s_frees T).2 := by
  unfold s_frees
  repeat' split
  all_goals first | exact hO | exact hO.wrw (by decide) | exact hO.wrw (by simp)
theorem o_bears {H : Nat} {T : zT} (hO : zOk H T) : zOk H (s_bears T).2 := by
  unfold s_bears
  repeat' split
  all_goals first | exact hO | exact hO.wrw (by decide) | exact hO.wrw (by simp)
theorem o_parties {H : Nat} {T : zT} (hO : zOk H T) : zOk H (s_parties T).2 := by
  unfold s_parties
  repeat' split
  all_goals first | exact hO | exact hO.wrw (by decide) | exact hO.wrw (by simp)
theorem o_just {H : Nat} {T : zT} (hO : zOk H T) (v : Int32) : zOk H (s_just T v).2 := by
  unfold s_just
  repeat' split
  all_goals first | exact hO | exact hO.wrw (by decide) | exact hO.wrw (by simp)
theorem o_swaps {H : Nat} {T : zT} (hO : zOk H T) : zOk H (s_swaps T).2 := by
  unfold s_swaps
  repeat' split
  all_goals first | exact hO | exact hO.wrw (by decide) | exact hO.wrw (by simp)
theorem o_apart {H : Nat} {T : zT} (hO : zOk H T) : zOk H (s_apart T).2 := by
  unfold s_apart
  repeat' split
  all_goals first | exact hO | exact hO.wrw (by decide) | exact hO.wrw (by simp)
theorem o_moment {H : Nat} {T : zT} (hO : zOk H T) : zOk H (s_moment T).2 := by
  unfold s_moment
  repeat' split
  all_goals first | exact hO | exact hO.wrw (by decide) | exact hO.wrw (by simp)
theorem o_minds {H : Nat} {T : zT} (hO : zOk H T) (b : Int32) : zOk H (s_minds T b).2 := by
  unfold s_minds
  repeat' split
  all_goals first | exact hO | exact hO.wrw (by decide) | exact hO.wrw (by simp)
theorem o_looks {H : Nat} {T : zT} (hO : zOk H T) (b : Int32) : zOk H (s_looks T b).2 := by
  unfold s_looks
  repeat' split
  all_goals first | exact hO | exact hO.wrw (by decide) | exact hO.wrw (by simp)
theorem o_fits {H : Nat} {T : zT} (hO : zOk H T) : zOk H (s_fits T).2 := by
  unfold s_fits
  repeat' split
  all_goals first | exact hO | exact hO.wrw (by decide) | exact hO.wrw (by simp)
theorem o_asks {H : Nat} {T : zT} (hO : zOk H T) : zOk H (s_asks T).2 := by
  unfold s_asks
  repeat' split
  all_goals first | exact hO | exact hO.wrw (by decide) | exact hO.wrw (by simp)
theorem o_years {H : Nat} {T : zT} (hO : zOk H T) (a b : Int32) : zOk H (s_years T a b).2 := by
  unfold s_years
  repeat' split
  all_goals first | exact hO | exact hO.wrw (by decide) | exact hO.wrw (by simp)
theorem o_cake {H : Nat} {T : zT} (hO : zOk H T) (a b : Int32) : zOk H (s_cake T a b).2 := by
  unfold s_cake
  repeat' split
  all_goals first | exact hO | exact hO.wrw (by decide) | exact hO.wrw (by simp)
theorem o_count {H : Nat} {T : zT} (hO : zOk H T) (w : Int32) : zOk H (s_count T w).2 := by
  unfold s_count
  repeat' split
  all_goals first | exact hO | exact hO.wrw (by decide) | exact hO.wrw (by simp)
