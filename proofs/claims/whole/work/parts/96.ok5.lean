/-! a rule sees seven things; what rule leaves is in its ranges -/
theorem z_li7n (c : Int32) : (z_li c).toNatClampNeg < 7 := by
  unfold z_li
  repeat' split
  all_goals decide
theorem zp_as {hr as as2 : Nat → Int32} (h : ∀ q, q < 7 → as q = as2 q) : ∀ (f tag dp : Nat) (v : Int32) (s : zps), tag ≤ 5 → zp hr as f tag dp v s = zp hr as2 f tag dp v s := by
  intro f
  induction f with
  | zero => intro tag dp v s _; rw [zp, zp]
  | succ f ih =>
    intro tag dp v s ht
    have i0 := fun dp v s => ih 0 dp v s (by decide)
    have i1 := fun dp v s => ih 1 dp v s (by decide)
    have i2 := fun dp v s => ih 2 dp v s (by decide)
    have i3 := fun dp v s => ih 3 dp v s (by decide)
    have i4 := fun dp v s => ih 4 dp v s (by decide)
    have i5 := fun dp v s => ih 5 dp v s (by decide)
    rcases (show tag = 0 ∨ tag = 1 ∨ tag = 2 ∨ tag = 3 ∨ tag = 4 ∨ tag = 5 by omega) with e | e | e | e | e | e <;> subst e
    · rw [zp_h, zp_h]; simp only [i1]
    · rw [zp_s, zp_s]; simp only [i3, i2]
    · rw [zp_sl, zp_sl]; simp only [i3, i2]
    · rw [zp_p, zp_p]; simp only [i5, i4]
    · rw [zp_pl, zp_pl]; simp only [i5, i4]
    · rw [zp_t, zp_t]; simp only [i5, i0, h _ (z_li7n (hr s.1))]
theorem zrv_as {t : Nat → Int32} {n : Nat} {th th2 : Nat → Int32} (h : ∀ q, q < 7 → th q = th2 q) : zrvM t n th = zrvM t n th2 := by
  unfold zrvM
  split
  · rw [h 0 (by decide), h 1 (by decide)]
  · rw [zp_as h 300 0 0 0 (0, -1) (by decide)]
theorem o_rule {H : Nat} {T : zT} (hO : zOk H T) : zOk H (s_rule T).2 := by
  unfold s_rule
  split
  · have h := hO.wt0
    exact ⟨h.txl, h.tx, h.rwl, h.pr, h.wm, h.wd, h.c, h.x, h.unl, h.un, h.kp, h.snl, h.sn, h.hdl, h.hd, fun th th2 e => zrv_as e⟩
  · exact hO.wt0
