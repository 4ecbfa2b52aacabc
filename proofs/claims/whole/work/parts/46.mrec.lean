/-! the reference reads a rule: held, sum, product, thing, by fuel -/
theorem zhr40 {t : Nat → Int32} {ln p : Nat} (h : zhr t ln 40 p ≠ -1) : p < 40 := (zhr_in h).2
theorem zp_nl_bd {hr : Nat → Int32} (h40 : ∀ p, hr p ≠ -1 → p < 40) : ∀ (k : Nat) (v : Int32) (s : zps), s.1 ≤ 40 → s.1 ≤ (zp_nl hr k v s).2.1 ∧ (zp_nl hr k v s).2.1 ≤ 40 := by
  intro k
  induction k with
  | zero => intro v s h; exact ⟨Nat.le_refl _, h⟩
  | succ k ih =>
    intro v s h
    rw [zp_nl]
    split
    · rename_i hd
      have h1 := zp_one_le hr 48 10 s
      have h2 : s.1 < 40 := h40 _ (fun e => absurd hd.2.1 (by rw [e]; decide))
      have := ih (10 * v + (zp_one hr 48 10 s).1) (zp_one hr 48 10 s).2 (by omega)
      exact ⟨by omega, this.2⟩
    · exact ⟨Nat.le_refl _, h⟩
theorem zp_one_bd {hr : Nat → Int32} (h40 : ∀ p, hr p ≠ -1 → p < 40) {a m : Int32} (ha : ¬ a ≤ -1) (s : zps) (h : s.1 ≤ 40) : s.1 ≤ (zp_one hr a m s).2.1 ∧ (zp_one hr a m s).2.1 ≤ 40 := by
  unfold zp_one; split
  · split
    · rename_i h1
      have := h40 s.1 (fun e => absurd (show a ≤ -1 by rw [← e]; exact h1.1) ha)
      exact ⟨by simp, by show s.1 + 1 ≤ 40; omega⟩
    · exact ⟨Nat.le_refl _, h⟩
  · exact ⟨Nat.le_refl _, h⟩
theorem zp_need_bd {hr : Nat → Int32} (h40 : ∀ p, hr p ≠ -1 → p < 40) {c : Int32} (hc : c ≠ -1) (s : zps) (h : s.1 ≤ 40) : s.1 ≤ (zp_need hr c s).1 ∧ (zp_need hr c s).1 ≤ 40 := by
  unfold zp_need zp_fault; split
  · rename_i h1
    have := h40 s.1 (fun e => hc (h1.2.symm.trans e))
    exact ⟨by simp, by show s.1 + 1 ≤ 40; omega⟩
  · split <;> exact ⟨Nat.le_refl _, h⟩
theorem zp_h (hr as : Nat → Int32) (f dp : Nat) (v : Int32) (s : zps) : zp hr as (f + 1) 0 dp v s = (let a := zp hr as f 1 dp 0 s
    if zp_is hr 60 a.2 then let b := zp hr as f 1 dp 0 (a.2.1 + 1, a.2.2); (if a.1 < b.1 then 1 else 0, b.2)
    else if zp_is hr 62 a.2 then let b := zp hr as f 1 dp 0 (a.2.1 + 1, a.2.2); (if b.1 < a.1 then 1 else 0, b.2)
    else if zp_is hr 61 a.2 then let b := zp hr as f 1 dp 0 (a.2.1 + 1, a.2.2); (if a.1 = b.1 then 1 else 0, b.2)
    else a) := rfl
theorem zp_s (hr as : Nat → Int32) (f dp : Nat) (v : Int32) (s : zps) : zp hr as (f + 1) 1 dp v s = zp hr as f 2 dp (zp hr as f 3 dp 0 s).1 (zp hr as f 3 dp 0 s).2 := rfl
theorem zp_sl (hr as : Nat → Int32) (f dp : Nat) (v : Int32) (s : zps) : zp hr as (f + 1) 2 dp v s = (if zp_is hr 43 s then let a := zp hr as f 3 dp 0 (s.1 + 1, s.2); zp hr as f 2 dp (v + a.1) a.2
    else if zp_is hr 45 s then let a := zp hr as f 3 dp 0 (s.1 + 1, s.2); zp hr as f 2 dp (v - a.1) a.2
    else (v, s)) := rfl
theorem zp_p (hr as : Nat → Int32) (f dp : Nat) (v : Int32) (s : zps) : zp hr as (f + 1) 3 dp v s = zp hr as f 4 dp (zp hr as f 5 dp 0 s).1 (zp hr as f 5 dp 0 s).2 := rfl
theorem zp_pl (hr as : Nat → Int32) (f dp : Nat) (v : Int32) (s : zps) : zp hr as (f + 1) 4 dp v s = (if zp_is hr 42 s then let a := zp hr as f 5 dp 0 (s.1 + 1, s.2); zp hr as f 4 dp (v * a.1) a.2
    else if zp_is hr 47 s then let a := zp hr as f 5 dp 0 (s.1 + 1, s.2); zp hr as f 4 dp (if a.1 = 0 then 0 else v / a.1) a.2
    else (v, s)) := rfl
theorem zp_t (hr as : Nat → Int32) (f dp : Nat) (v : Int32) (s : zps) : zp hr as (f + 1) 5 dp v s = (if zp_is hr 45 s then let a := zp hr as f 5 dp 0 (s.1 + 1, s.2); (-a.1, a.2)
    else if s.2 ≠ -1 then (0, s)
    else if hr s.1 = 40 ∧ dp < 4 then let a := zp hr as f 0 (dp + 1) 0 (s.1 + 1, s.2); (a.1, zp_need hr 41 a.2)
    else if 48 ≤ hr s.1 ∧ hr s.1 ≤ 57 then zp_num hr 3 s
    else if z_li (hr s.1) = -1 then (0, zp_fault s.1 s)
    else (as (z_li (hr s.1)).toNatClampNeg, (s.1 + 1, s.2))) := rfl
theorem zp_bd {hr as : Nat → Int32} (h40 : ∀ p, hr p ≠ -1 → p < 40) : ∀ (f tag : Nat) (dp : Nat) (v : Int32) (s : zps), tag ≤ 5 → s.1 ≤ 40 → s.1 ≤ (zp hr as f tag dp v s).2.1 ∧ (zp hr as f tag dp v s).2.1 ≤ 40 := by
  have his : ∀ {c : Int32} {s : zps}, c ≠ -1 → zp_is hr c s → s.1 < 40 := fun hc h => h40 _ (fun e => hc (h.2.symm.trans e))
  intro f
  induction f with
  | zero => intro tag dp v s _ h; exact ⟨Nat.le_refl _, h⟩
  | succ f ih =>
    intro tag dp v s ht h
    have ht : tag = 0 ∨ tag = 1 ∨ tag = 2 ∨ tag = 3 ∨ tag = 4 ∨ tag = 5 := by omega
    rcases ht with rfl | rfl | rfl | rfl | rfl | rfl
    · rw [zp_h]
      have h1 := ih 1 dp 0 s (by decide) h
      generalize zp hr as f 1 dp 0 s = a at h1
      simp only
      split
      · rename_i hc; have h2 := his (by decide) hc; have h3 := ih 1 dp 0 (a.2.1 + 1, a.2.2) (by decide) (by show a.2.1 + 1 ≤ 40; omega)
        exact ⟨by have := h3.1; simp only at this ⊢; omega, h3.2⟩
      · split
        · rename_i hc; have h2 := his (by decide) hc; have h3 := ih 1 dp 0 (a.2.1 + 1, a.2.2) (by decide) (by show a.2.1 + 1 ≤ 40; omega)
          exact ⟨by have := h3.1; simp only at this ⊢; omega, h3.2⟩
        · split
          · rename_i hc; have h2 := his (by decide) hc; have h3 := ih 1 dp 0 (a.2.1 + 1, a.2.2) (by decide) (by show a.2.1 + 1 ≤ 40; omega)
            exact ⟨by have := h3.1; simp only at this ⊢; omega, h3.2⟩
          · exact h1
    · rw [zp_s]
      have h1 := ih 3 dp 0 s (by decide) h
      have h2 := ih 2 dp (zp hr as f 3 dp 0 s).1 (zp hr as f 3 dp 0 s).2 (by decide) h1.2
      exact ⟨by omega, h2.2⟩
    · rw [zp_sl]
      split
      · rename_i hc; have h2 := his (by decide) hc; have h3 := ih 3 dp 0 (s.1 + 1, s.2) (by decide) (by show s.1 + 1 ≤ 40; omega)
        have h4 := ih 2 dp (v + (zp hr as f 3 dp 0 (s.1 + 1, s.2)).1) (zp hr as f 3 dp 0 (s.1 + 1, s.2)).2 (by decide) h3.2
        exact ⟨by have := h3.1; simp only at this ⊢; omega, h4.2⟩
      · split
        · rename_i hc; have h2 := his (by decide) hc; have h3 := ih 3 dp 0 (s.1 + 1, s.2) (by decide) (by show s.1 + 1 ≤ 40; omega)
          have h4 := ih 2 dp (v - (zp hr as f 3 dp 0 (s.1 + 1, s.2)).1) (zp hr as f 3 dp 0 (s.1 + 1, s.2)).2 (by decide) h3.2
          exact ⟨by have := h3.1; simp only at this ⊢; omega, h4.2⟩
        · exact ⟨Nat.le_refl _, h⟩
    · rw [zp_p]
      have h1 := ih 5 dp 0 s (by decide) h
      have h2 := ih 4 dp (zp hr as f 5 dp 0 s).1 (zp hr as f 5 dp 0 s).2 (by decide) h1.2
      exact ⟨by omega, h2.2⟩
    · rw [zp_pl]
      split
      · rename_i hc; have h2 := his (by decide) hc; have h3 := ih 5 dp 0 (s.1 + 1, s.2) (by decide) (by show s.1 + 1 ≤ 40; omega)
        have h4 := ih 4 dp (v * (zp hr as f 5 dp 0 (s.1 + 1, s.2)).1) (zp hr as f 5 dp 0 (s.1 + 1, s.2)).2 (by decide) h3.2
        exact ⟨by have := h3.1; simp only at this ⊢; omega, h4.2⟩
      · split
        · rename_i hc; have h2 := his (by decide) hc; have h3 := ih 5 dp 0 (s.1 + 1, s.2) (by decide) (by show s.1 + 1 ≤ 40; omega)
          have h4 := ih 4 dp (if (zp hr as f 5 dp 0 (s.1 + 1, s.2)).1 = 0 then 0 else v / (zp hr as f 5 dp 0 (s.1 + 1, s.2)).1) (zp hr as f 5 dp 0 (s.1 + 1, s.2)).2 (by decide) h3.2
          exact ⟨by have := h3.1; simp only at this ⊢; omega, h4.2⟩
        · exact ⟨Nat.le_refl _, h⟩
    · rw [zp_t]
      split
      · rename_i hc; have h2 := his (by decide) hc; have h3 := ih 5 dp 0 (s.1 + 1, s.2) (by decide) (by show s.1 + 1 ≤ 40; omega)
        exact ⟨by have := h3.1; simp only at this ⊢; omega, h3.2⟩
      · split
        · exact ⟨Nat.le_refl _, h⟩
        · split
          · rename_i hc; have h2 := h40 s.1 (by rw [hc.1]; decide); have h3 := ih 0 (dp + 1) 0 (s.1 + 1, s.2) (by decide) (by show s.1 + 1 ≤ 40; omega)
            have h4 := zp_need_bd h40 (c := 41) (by decide) (zp hr as f 0 (dp + 1) 0 (s.1 + 1, s.2)).2 h3.2
            exact ⟨by have := h3.1; simp only at this ⊢; omega, h4.2⟩
          · split
            · have h1 := zp_one_bd h40 (a := 48) (m := 10) (by decide) s h
              have h2 := zp_nl_bd h40 2 (zp_one hr 48 10 s).1 (zp_one hr 48 10 s).2 h1.2
              exact ⟨Nat.le_trans h1.1 h2.1, h2.2⟩
            · split
              · unfold zp_fault; split <;> exact ⟨Nat.le_refl _, h⟩
              · rename_i hl
                have h2 := h40 s.1 (fun e => hl (by rw [e]; decide))
                exact ⟨by simp, by show s.1 + 1 ≤ 40; omega⟩
theorem z_li7 {c : Int32} (h : z_li c ≠ -1) : ∃ q, q < 7 ∧ z_li c = nI q := by
  unfold z_li at h ⊢
  split
  · exact ⟨0, by decide, rfl⟩
  · rename_i h1; rw [if_neg h1] at h
    split
    · exact ⟨1, by decide, rfl⟩
    · rename_i h1; rw [if_neg h1] at h
      split
      · exact ⟨2, by decide, rfl⟩
      · rename_i h1; rw [if_neg h1] at h
        split
        · exact ⟨3, by decide, rfl⟩
        · rename_i h1; rw [if_neg h1] at h
          split
          · exact ⟨4, by decide, rfl⟩
          · rename_i h1; rw [if_neg h1] at h
            split
            · exact ⟨5, by decide, rfl⟩
            · rename_i h1; rw [if_neg h1] at h
              split
              · exact ⟨6, by decide, rfl⟩
              · rename_i h1; rw [if_neg h1] at h; exact absurd rfl h
section ZPD
variable (n : Nat) (sl : Nat × Nat) (kd : Nat → Nat × Nat) (I : Nat → Nat → Int32) (L : Nat → Nat → Int64) (Rf : Nat → Nat → Option Nat) (ln : Nat) (t as : Nat → Int32) (f : Nat)
def zPm (M : eb_M) (tag rk : Nat) : Prop := ∀ (D dp : Nat) (s : zps), f + 5 ≤ D → s.1 ≤ 40 → dp ≤ 4 → 5 * (41 - s.1) + rk ≤ f → eb_Q M D [.ref 112, .int (nI dp)] (n, sl, kd, zpw I s, L, Rf) (eb_r (zp (zhr t ln 40) as f tag dp 0 s).1 (n, sl, kd, zpw I (zp (zhr t ln 40) as f tag dp 0 s).2, L, Rf))
def zPl (M : eb_M) (tag : Nat) : Prop := ∀ (D dp : Nat) (v : Int32) (s : zps), f + 5 ≤ D → s.1 ≤ 40 → dp ≤ 4 → 5 * (41 - s.1) + 1 ≤ f → eb_P M D 6 [(2, .int v), (0, .ref 112), (1, .int (nI dp))] [] (n, sl, kd, zpw I s, L, Rf) (eb_r (zp (zhr t ln 40) as f tag dp v s).1 (n, sl, kd, zpw I (zp (zhr t ln 40) as f tag dp v s).2, L, Rf))
def zPa : Prop := zPm n sl kd I L Rf ln t as f mX11_held 0 4 ∧ zPm n sl kd I L Rf ln t as f mX11_sum 1 3 ∧ zPl n sl kd I L Rf ln t as f mX11_sum 2 ∧ zPm n sl kd I L Rf ln t as f mX11_product 3 2 ∧ zPl n sl kd I L Rf ln t as f mX11_product 4 ∧ zPm n sl kd I L Rf ln t as f mX11_thing 5 1
end ZPD
theorem zs_X11_held {n : Nat} {sl : Nat × Nat} {kd : Nat → Nat × Nat} {I : Nat → Nat → Int32} {L : Nat → Nat → Int64} {Rf : Nat → Nat → Option Nat} {rc m ln : Nat} {t as : Nat → Int32} {f : Nat} (hP : zpc n kd I Rf rc m ln 40 t) (hA : (I 112 19 = 1 ∧ ∀ q, q < 7 → I 121 q = as q) ∨ (I 112 19 = 0 ∧ ∀ q, as q = 0)) (ih : zPa n sl kd I L Rf ln t as f) : zPm n sl kd I L Rf ln t as (f + 1) mX11_held 0 4 := by
  intro D dp s hD hs hdp hmu
  obtain ⟨d, rfl⟩ : ∃ d, D = d + 5 + 1 := ⟨D - 6, by omega⟩
  have hF := hP.F; have hln := hP.ml; have hp : s.1 < 900 := (by omega)
  refine ep_meth pn_X.2.2.2.2.2.2.2.2.2.2.2 (Nat.le_of_ble_eq_true rfl) ?_
  show eb_P _ _ 0 [(0, .ref 112), (1, .int (nI dp))] [] (n, sl, kd, zpw I (s.1, s.2), L, Rf) _
  refine ep_aload_n (i := 0) dX11_held_0 rfl rfl ?_
  refine ep_iload_n (i := 1) dX11_held_1 rfl rfl ?_
  refine ep_callV (M1 := mX11_sum) (rest := []) dX11_held_2 mlX11_160 mvX11_sum rfl (hF.lt (by decide)) (hF.kc (by decide) rfl) (Nat.le_of_ble_eq_true rfl) rfl (ih.2.1 (d + 5) dp (s.1, s.2) (by omega) (by show s.1 ≤ 40; omega) (by omega) (by show 5 * (41 - (s.1)) + _ ≤ f; omega)) (fun _ _ g => Or.inl (by rw [g.1])) ?_
  rintro _ _ ⟨rfl, rfl⟩
  have hb1 := zp_bd (hr := (zhr t ln 40)) (as := as) (fun _ => zhr40) f 1 dp 0 (s.1, s.2) (by decide) (by show s.1 ≤ 40; omega)
  rcases e1 : zp (zhr t ln 40) as f 1 dp 0 (s.1, s.2) with ⟨v1, p1, w1⟩
  rw [e1] at hb1; have hb1 : s.1 ≤ p1 ∧ p1 ≤ 40 := hb1
  show eb_P _ _ 5 [(0, .ref 112), (1, .int (nI dp))] (.int v1 :: []) (n, sl, kd, zpw I (p1, w1), L, Rf) _
  refine ep_istore_n (l' := [(2, .int v1), (0, .ref 112), (1, .int (nI dp))]) dX11_held_5 rfl (by decide) rfl ?_
  refine ep_aload_n (i := 0) dX11_held_6 rfl rfl ?_
  refine ep_bipush (v := 60) dX11_held_7 (by decide) ?_
  refine ep_callV (M1 := mX11_passes) (rest := []) dX11_held_9 mlX11_132 mvX11_passes rfl (hF.lt (by decide)) (hF.kc (by decide) rfl) (Nat.le_of_ble_eq_true rfl) rfl (q_X11_passes (s := (p1, w1)) (d + 4) hP (by show p1 < 1000; omega) 60) zpb_ok ?_
  rintro _ _ (⟨z2, rfl, rfl⟩ | ⟨z2, rfl, rfl⟩)
  · show eb_P _ _ 12 [(2, .int v1), (0, .ref 112), (1, .int (nI dp))] (.int 1 :: []) (n, sl, kd, zpw I (p1 + 1, w1), L, Rf) _
    have hqz2 : p1 < 40 := zhr40 (t := t) (ln := ln) (fun e => absurd (z2.2.symm.trans e) (by decide))
    refine ep_if_eq (tgt := 30) dX11_held_12 (by decide) (fun c3 => absurd c3 (by decide)) (fun c3 => ?_)
    refine ep_iload_n (i := 2) dX11_held_15 rfl rfl ?_
    refine ep_aload_n (i := 0) dX11_held_16 rfl rfl ?_
    refine ep_iload_n (i := 1) dX11_held_17 rfl rfl ?_
    refine ep_callV (M1 := mX11_sum) (rest := [.int v1]) dX11_held_18 mlX11_160 mvX11_sum rfl (hF.lt (by decide)) (hF.kc (by decide) rfl) (Nat.le_of_ble_eq_true rfl) rfl (ih.2.1 (d + 5) dp (p1 + 1, w1) (by omega) (by show p1 + 1 ≤ 40; omega) (by omega) (by show 5 * (41 - (p1 + 1)) + _ ≤ f; omega)) (fun _ _ g => Or.inl (by rw [g.1])) ?_
    rintro _ _ ⟨rfl, rfl⟩
    have hb4 := zp_bd (hr := (zhr t ln 40)) (as := as) (fun _ => zhr40) f 1 dp 0 (p1 + 1, w1) (by decide) (by show p1 + 1 ≤ 40; omega)
    rcases e4 : zp (zhr t ln 40) as f 1 dp 0 (p1 + 1, w1) with ⟨v4, p4, w4⟩
    rw [e4] at hb4; have hb4 : p1 + 1 ≤ p4 ∧ p4 ≤ 40 := hb4
    show eb_P _ _ 21 [(2, .int v1), (0, .ref 112), (1, .int (nI dp))] (.int v4 :: [.int v1]) (n, sl, kd, zpw I (p4, w4), L, Rf) _
    refine ep_icmp_ge (tgt := 28) dX11_held_21 (by decide) (fun c5 => ?_) (fun c5 => ?_)
    · skip
      refine ep_iconst (v := 0) dX11_held_28 (by decide) ?_
      refine ep_iret dX11_held_29 rfl rfl ?_
      have e : zp (zhr t ln 40) as (f + 1) 0 dp 0 s = (0, (p4, w4)) := by
        rw [zp_h]
        show (let a := zp (zhr t ln 40) as f 1 dp 0 (s.1, s.2); _) = _
        rw [e1]
        simp only
        rw [if_pos z2]
        rw [e4]
        simp only
        rw [if_neg (by first | assumption | exact Int32.not_lt.mpr (by assumption))]
      exact ⟨by rw [e], by rw [e]⟩
    · skip
      refine ep_iconst (v := 1) dX11_held_24 (by decide) ?_
      refine ep_goto (tgt := 29) dX11_held_25 (by decide) ?_
      refine ep_iret dX11_held_29 rfl rfl ?_
      have e : zp (zhr t ln 40) as (f + 1) 0 dp 0 s = (1, (p4, w4)) := by
        rw [zp_h]
        show (let a := zp (zhr t ln 40) as f 1 dp 0 (s.1, s.2); _) = _
        rw [e1]
        simp only
        rw [if_pos z2]
        rw [e4]
        simp only
        rw [if_pos (by first | assumption | exact Int32.not_le.mp (by assumption) | exact Classical.not_not.mp (by assumption))]
      exact ⟨by rw [e], by rw [e]⟩
  · show eb_P _ _ 12 [(2, .int v1), (0, .ref 112), (1, .int (nI dp))] (.int 0 :: []) (n, sl, kd, zpw I (p1, w1), L, Rf) _
    refine ep_if_eq (tgt := 30) dX11_held_12 (by decide) (fun c6 => ?_) (fun c6 => absurd (by decide) c6)
    refine ep_aload_n (i := 0) dX11_held_30 rfl rfl ?_
    refine ep_bipush (v := 62) dX11_held_31 (by decide) ?_
    refine ep_callV (M1 := mX11_passes) (rest := []) dX11_held_33 mlX11_132 mvX11_passes rfl (hF.lt (by decide)) (hF.kc (by decide) rfl) (Nat.le_of_ble_eq_true rfl) rfl (q_X11_passes (s := (p1, w1)) (d + 4) hP (by show p1 < 1000; omega) 62) zpb_ok ?_
    rintro _ _ (⟨z7, rfl, rfl⟩ | ⟨z7, rfl, rfl⟩)
    · show eb_P _ _ 36 [(2, .int v1), (0, .ref 112), (1, .int (nI dp))] (.int 1 :: []) (n, sl, kd, zpw I (p1 + 1, w1), L, Rf) _
      have hqz7 : p1 < 40 := zhr40 (t := t) (ln := ln) (fun e => absurd (z7.2.symm.trans e) (by decide))
      refine ep_if_eq (tgt := 54) dX11_held_36 (by decide) (fun c8 => absurd c8 (by decide)) (fun c8 => ?_)
      refine ep_iload_n (i := 2) dX11_held_39 rfl rfl ?_
      refine ep_aload_n (i := 0) dX11_held_40 rfl rfl ?_
      refine ep_iload_n (i := 1) dX11_held_41 rfl rfl ?_
      refine ep_callV (M1 := mX11_sum) (rest := [.int v1]) dX11_held_42 mlX11_160 mvX11_sum rfl (hF.lt (by decide)) (hF.kc (by decide) rfl) (Nat.le_of_ble_eq_true rfl) rfl (ih.2.1 (d + 5) dp (p1 + 1, w1) (by omega) (by show p1 + 1 ≤ 40; omega) (by omega) (by show 5 * (41 - (p1 + 1)) + _ ≤ f; omega)) (fun _ _ g => Or.inl (by rw [g.1])) ?_
      rintro _ _ ⟨rfl, rfl⟩
      have hb9 := zp_bd (hr := (zhr t ln 40)) (as := as) (fun _ => zhr40) f 1 dp 0 (p1 + 1, w1) (by decide) (by show p1 + 1 ≤ 40; omega)
      rcases e9 : zp (zhr t ln 40) as f 1 dp 0 (p1 + 1, w1) with ⟨v9, p9, w9⟩
      rw [e9] at hb9; have hb9 : p1 + 1 ≤ p9 ∧ p9 ≤ 40 := hb9
      show eb_P _ _ 45 [(2, .int v1), (0, .ref 112), (1, .int (nI dp))] (.int v9 :: [.int v1]) (n, sl, kd, zpw I (p9, w9), L, Rf) _
      refine ep_icmp_le (tgt := 52) dX11_held_45 (by decide) (fun c10 => ?_) (fun c10 => ?_)
      · skip
        refine ep_iconst (v := 0) dX11_held_52 (by decide) ?_
        refine ep_iret dX11_held_53 rfl rfl ?_
        have e : zp (zhr t ln 40) as (f + 1) 0 dp 0 s = (0, (p9, w9)) := by
          rw [zp_h]
          show (let a := zp (zhr t ln 40) as f 1 dp 0 (s.1, s.2); _) = _
          rw [e1]
          simp only
          rw [if_neg z2]
          rw [if_pos z7]
          rw [e9]
          simp only
          rw [if_neg (by first | assumption | exact Int32.not_lt.mpr (by assumption))]
        exact ⟨by rw [e], by rw [e]⟩
      · skip
        refine ep_iconst (v := 1) dX11_held_48 (by decide) ?_
        refine ep_goto (tgt := 53) dX11_held_49 (by decide) ?_
        refine ep_iret dX11_held_53 rfl rfl ?_
        have e : zp (zhr t ln 40) as (f + 1) 0 dp 0 s = (1, (p9, w9)) := by
          rw [zp_h]
          show (let a := zp (zhr t ln 40) as f 1 dp 0 (s.1, s.2); _) = _
          rw [e1]
          simp only
          rw [if_neg z2]
          rw [if_pos z7]
          rw [e9]
          simp only
          rw [if_pos (by first | assumption | exact Int32.not_le.mp (by assumption) | exact Classical.not_not.mp (by assumption))]
        exact ⟨by rw [e], by rw [e]⟩
    · show eb_P _ _ 36 [(2, .int v1), (0, .ref 112), (1, .int (nI dp))] (.int 0 :: []) (n, sl, kd, zpw I (p1, w1), L, Rf) _
      refine ep_if_eq (tgt := 54) dX11_held_36 (by decide) (fun c11 => ?_) (fun c11 => absurd (by decide) c11)
      refine ep_aload_n (i := 0) dX11_held_54 rfl rfl ?_
      refine ep_bipush (v := 61) dX11_held_55 (by decide) ?_
      refine ep_callV (M1 := mX11_passes) (rest := []) dX11_held_57 mlX11_132 mvX11_passes rfl (hF.lt (by decide)) (hF.kc (by decide) rfl) (Nat.le_of_ble_eq_true rfl) rfl (q_X11_passes (s := (p1, w1)) (d + 4) hP (by show p1 < 1000; omega) 61) zpb_ok ?_
      rintro _ _ (⟨z12, rfl, rfl⟩ | ⟨z12, rfl, rfl⟩)
      · show eb_P _ _ 60 [(2, .int v1), (0, .ref 112), (1, .int (nI dp))] (.int 1 :: []) (n, sl, kd, zpw I (p1 + 1, w1), L, Rf) _
        have hqz12 : p1 < 40 := zhr40 (t := t) (ln := ln) (fun e => absurd (z12.2.symm.trans e) (by decide))
        refine ep_if_eq (tgt := 78) dX11_held_60 (by decide) (fun c13 => absurd c13 (by decide)) (fun c13 => ?_)
        refine ep_iload_n (i := 2) dX11_held_63 rfl rfl ?_
        refine ep_aload_n (i := 0) dX11_held_64 rfl rfl ?_
        refine ep_iload_n (i := 1) dX11_held_65 rfl rfl ?_
        refine ep_callV (M1 := mX11_sum) (rest := [.int v1]) dX11_held_66 mlX11_160 mvX11_sum rfl (hF.lt (by decide)) (hF.kc (by decide) rfl) (Nat.le_of_ble_eq_true rfl) rfl (ih.2.1 (d + 5) dp (p1 + 1, w1) (by omega) (by show p1 + 1 ≤ 40; omega) (by omega) (by show 5 * (41 - (p1 + 1)) + _ ≤ f; omega)) (fun _ _ g => Or.inl (by rw [g.1])) ?_
        rintro _ _ ⟨rfl, rfl⟩
        have hb14 := zp_bd (hr := (zhr t ln 40)) (as := as) (fun _ => zhr40) f 1 dp 0 (p1 + 1, w1) (by decide) (by show p1 + 1 ≤ 40; omega)
        rcases e14 : zp (zhr t ln 40) as f 1 dp 0 (p1 + 1, w1) with ⟨v14, p14, w14⟩
        rw [e14] at hb14; have hb14 : p1 + 1 ≤ p14 ∧ p14 ≤ 40 := hb14
        show eb_P _ _ 69 [(2, .int v1), (0, .ref 112), (1, .int (nI dp))] (.int v14 :: [.int v1]) (n, sl, kd, zpw I (p14, w14), L, Rf) _
        refine ep_icmp_ne (tgt := 76) dX11_held_69 (by decide) (fun c15 => ?_) (fun c15 => ?_)
        · skip
          refine ep_iconst (v := 0) dX11_held_76 (by decide) ?_
          refine ep_iret dX11_held_77 rfl rfl ?_
          have e : zp (zhr t ln 40) as (f + 1) 0 dp 0 s = (0, (p14, w14)) := by
            rw [zp_h]
            show (let a := zp (zhr t ln 40) as f 1 dp 0 (s.1, s.2); _) = _
            rw [e1]
            simp only
            rw [if_neg z2]
            rw [if_neg z7]
            rw [if_pos z12]
            rw [e14]
            simp only
            rw [if_neg (by first | assumption | exact Int32.not_lt.mpr (by assumption))]
          exact ⟨by rw [e], by rw [e]⟩
        · skip
          refine ep_iconst (v := 1) dX11_held_72 (by decide) ?_
          refine ep_goto (tgt := 77) dX11_held_73 (by decide) ?_
          refine ep_iret dX11_held_77 rfl rfl ?_
          have e : zp (zhr t ln 40) as (f + 1) 0 dp 0 s = (1, (p14, w14)) := by
            rw [zp_h]
            show (let a := zp (zhr t ln 40) as f 1 dp 0 (s.1, s.2); _) = _
            rw [e1]
            simp only
            rw [if_neg z2]
            rw [if_neg z7]
            rw [if_pos z12]
            rw [e14]
            simp only
            rw [if_pos (by first | assumption | exact Int32.not_le.mp (by assumption) | exact Classical.not_not.mp (by assumption))]
          exact ⟨by rw [e], by rw [e]⟩
      · show eb_P _ _ 60 [(2, .int v1), (0, .ref 112), (1, .int (nI dp))] (.int 0 :: []) (n, sl, kd, zpw I (p1, w1), L, Rf) _
        refine ep_if_eq (tgt := 78) dX11_held_60 (by decide) (fun c16 => ?_) (fun c16 => absurd (by decide) c16)
        refine ep_iload_n (i := 2) dX11_held_78 rfl rfl ?_
        refine ep_iret dX11_held_79 rfl rfl ?_
        have e : zp (zhr t ln 40) as (f + 1) 0 dp 0 s = (v1, (p1, w1)) := by
          rw [zp_h]
          show (let a := zp (zhr t ln 40) as f 1 dp 0 (s.1, s.2); _) = _
          rw [e1]
          simp only
          rw [if_neg z2]
          rw [if_neg z7]
          rw [if_neg z12]
        exact ⟨by rw [e], by rw [e]⟩
theorem zs_X11_sum {n : Nat} {sl : Nat × Nat} {kd : Nat → Nat × Nat} {I : Nat → Nat → Int32} {L : Nat → Nat → Int64} {Rf : Nat → Nat → Option Nat} {rc m ln : Nat} {t as : Nat → Int32} {f : Nat} (hP : zpc n kd I Rf rc m ln 40 t) (hA : (I 112 19 = 1 ∧ ∀ q, q < 7 → I 121 q = as q) ∨ (I 112 19 = 0 ∧ ∀ q, as q = 0)) (ih : zPa n sl kd I L Rf ln t as f) : zPm n sl kd I L Rf ln t as (f + 1) mX11_sum 1 3 := by
  intro D dp s hD hs hdp hmu
  obtain ⟨d, rfl⟩ : ∃ d, D = d + 5 + 1 := ⟨D - 6, by omega⟩
  have hF := hP.F; have hln := hP.ml; have hp : s.1 < 900 := (by omega)
  refine ep_meth pn_X.2.2.2.2.2.2.2.2.2.2.2 (Nat.le_of_ble_eq_true rfl) ?_
  show eb_P _ _ 0 [(0, .ref 112), (1, .int (nI dp))] [] (n, sl, kd, zpw I (s.1, s.2), L, Rf) _
  refine ep_aload_n (i := 0) dX11_sum_0 rfl rfl ?_
  refine ep_iload_n (i := 1) dX11_sum_1 rfl rfl ?_
  refine ep_callV (M1 := mX11_product) (rest := []) dX11_sum_2 mlX11_163 mvX11_product rfl (hF.lt (by decide)) (hF.kc (by decide) rfl) (Nat.le_of_ble_eq_true rfl) rfl (ih.2.2.2.1 (d + 5) dp (s.1, s.2) (by omega) (by show s.1 ≤ 40; omega) (by omega) (by show 5 * (41 - (s.1)) + _ ≤ f; omega)) (fun _ _ g => Or.inl (by rw [g.1])) ?_
  rintro _ _ ⟨rfl, rfl⟩
  have hb1 := zp_bd (hr := (zhr t ln 40)) (as := as) (fun _ => zhr40) f 3 dp 0 (s.1, s.2) (by decide) (by show s.1 ≤ 40; omega)
  rcases e1 : zp (zhr t ln 40) as f 3 dp 0 (s.1, s.2) with ⟨v1, p1, w1⟩
  rw [e1] at hb1; have hb1 : s.1 ≤ p1 ∧ p1 ≤ 40 := hb1
  show eb_P _ _ 5 [(0, .ref 112), (1, .int (nI dp))] (.int v1 :: []) (n, sl, kd, zpw I (p1, w1), L, Rf) _
  refine ep_istore_n (l' := [(2, .int v1), (0, .ref 112), (1, .int (nI dp))]) dX11_sum_5 rfl (by decide) rfl ?_
  have e : zp (zhr t ln 40) as (f + 1) 1 dp 0 s = zp (zhr t ln 40) as f 2 dp v1 (p1, w1) := by rw [zp_s]; show zp (zhr t ln 40) as f 2 dp (zp (zhr t ln 40) as f 3 dp 0 (s.1, s.2)).1 (zp (zhr t ln 40) as f 3 dp 0 (s.1, s.2)).2 = _; rw [e1]
  rw [e]
  exact ih.2.2.1 (d + 6) dp _ (p1, w1) (by omega) (by show p1 ≤ 40; omega) hdp (by show 5 * (41 - p1) + 1 ≤ f; omega)
theorem zl_X11_sum {n : Nat} {sl : Nat × Nat} {kd : Nat → Nat × Nat} {I : Nat → Nat → Int32} {L : Nat → Nat → Int64} {Rf : Nat → Nat → Option Nat} {rc m ln : Nat} {t as : Nat → Int32} {f : Nat} (hP : zpc n kd I Rf rc m ln 40 t) (hA : (I 112 19 = 1 ∧ ∀ q, q < 7 → I 121 q = as q) ∨ (I 112 19 = 0 ∧ ∀ q, as q = 0)) (ih : zPa n sl kd I L Rf ln t as f) : zPl n sl kd I L Rf ln t as (f + 1) mX11_sum 2 := by
  intro D dp v s hD hs hdp hmu
  obtain ⟨d, rfl⟩ : ∃ d, D = d + 5 + 1 := ⟨D - 6, by omega⟩
  have hF := hP.F; have hln := hP.ml; have hp : s.1 < 900 := (by omega)
  show eb_P _ _ 6 [(2, .int v), (0, .ref 112), (1, .int (nI dp))] [] (n, sl, kd, zpw I (s.1, s.2), L, Rf) _
  refine ep_aload_n (i := 0) dX11_sum_6 rfl rfl ?_
  refine ep_callV (M1 := mX11_fine) (rest := []) dX11_sum_7 mlX11_124 mvX11_fine rfl (hF.lt (by decide)) (hF.kc (by decide) rfl) (Nat.le_of_ble_eq_true rfl) rfl (q_X11_fine (s := (s.1, s.2)) (d + 5) hP (by show s.1 < 1000; omega)) eb_bok ?_
  rintro _ _ ⟨rfl, ⟨fi, rfl⟩ | ⟨fi, rfl⟩⟩
  · show eb_P _ _ 10 [(2, .int v), (0, .ref 112), (1, .int (nI dp))] (.int 1 :: []) _ _
    refine ep_if_eq (tgt := 82) dX11_sum_10 (by decide) (fun c1 => absurd c1 (by decide)) (fun c1 => ?_)
    refine ep_aload_n (i := 0) dX11_sum_13 rfl rfl ?_
    refine ep_callV (M1 := mX11_here) (rest := []) dX11_sum_14 mlX11_128 mvX11_here rfl (hF.lt (by decide)) (hF.kc (by decide) rfl) (Nat.le_of_ble_eq_true rfl) rfl (q_X11_here (s := (s.1, s.2)) (d + 5) hP (by show s.1 < 1000; omega)) eb_rok ?_
    rintro _ _ ⟨rfl, rfl⟩
    show eb_P _ _ 17 [(2, .int v), (0, .ref 112), (1, .int (nI dp))] (.int (zhr t ln 40 s.1) :: []) _ _
    refine ep_bipush (v := 43) dX11_sum_17 (by decide) ?_
    refine ep_icmp_eq (tgt := 31) dX11_sum_19 (by decide) (fun c2 => ?_) (fun c2 => ?_)
    · skip
      have hq : s.1 < 40 := zhr40 (t := t) (ln := ln) (fun e => by first | exact absurd ((show zhr t ln 40 s.1 = 43 by first | assumption | exact Classical.not_not.mp (by assumption)).symm.trans e) (by decide) | exact absurd ((show zhr t ln 40 s.1 = 45 by first | assumption | exact Classical.not_not.mp (by assumption)).symm.trans e) (by decide))
      refine ep_aload_n (i := 0) dX11_sum_31 rfl rfl ?_
      refine ep_callV (M1 := mX11_here) (rest := []) dX11_sum_32 mlX11_128 mvX11_here rfl (hF.lt (by decide)) (hF.kc (by decide) rfl) (Nat.le_of_ble_eq_true rfl) rfl (q_X11_here (s := (s.1, s.2)) (d + 5) hP (by show s.1 < 1000; omega)) eb_rok ?_
      rintro _ _ ⟨rfl, rfl⟩
      show eb_P _ _ 35 [(2, .int v), (0, .ref 112), (1, .int (nI dp))] (.int (zhr t ln 40 s.1) :: []) _ _
      refine ep_bipush (v := 43) dX11_sum_35 (by decide) ?_
      refine ep_icmp_ne (tgt := 44) dX11_sum_37 (by decide) (fun c3 => absurd c3 (fun g => g (by assumption))) (fun c3 => ?_)
      refine ep_iconst (v := 1) dX11_sum_40 (by decide) ?_
      refine ep_goto (tgt := 45) dX11_sum_41 (by decide) ?_
      refine ep_istore_n (l' := [(3, .int 1), (2, .int v), (0, .ref 112), (1, .int (nI dp))]) dX11_sum_45 rfl (by decide) rfl ?_
      refine ep_aload_n (i := 0) dX11_sum_46 rfl rfl ?_
      refine ep_dup dX11_sum_47 rfl ?_
      refine ep_getI dX11_sum_48 flX11_114 (hF.lt (by decide)) (hF.kc (by decide) rfl) ?_
      refine ep_topE (y := nI s.1) zpw_13 ?_
      refine ep_iconst (v := 1) dX11_sum_51 (by decide) ?_
      refine ep_iadd dX11_sum_52 ?_
      refine ep_topE (y := nI (s.1 + 1)) (nI_add _ _) ?_
      refine ep_pI dX11_sum_53 plX11_114 (hF.lt (by decide)) (hF.lx (by decide)) (hF.kc (by decide) rfl) rfl rfl ?_
      refine ep_eq (σ2 := (n, sl, kd, zpw I ((s.1 + 1), s.2), L, Rf)) rfl rfl rfl (by rw [zpw_s13]) ?_
      refine ep_aload_n (i := 0) dX11_sum_56 rfl rfl ?_
      refine ep_iload_n (i := 1) dX11_sum_57 rfl rfl ?_
      refine ep_callV (M1 := mX11_product) (rest := []) dX11_sum_58 mlX11_163 mvX11_product rfl (hF.lt (by decide)) (hF.kc (by decide) rfl) (Nat.le_of_ble_eq_true rfl) rfl (ih.2.2.2.1 (d + 5) dp ((s.1 + 1), s.2) (by omega) (by show (s.1 + 1) ≤ 40; omega) (by omega) (by show 5 * (41 - ((s.1 + 1))) + _ ≤ f; omega)) (fun _ _ g => Or.inl (by rw [g.1])) ?_
      rintro _ _ ⟨rfl, rfl⟩
      have hb4 := zp_bd (hr := (zhr t ln 40)) (as := as) (fun _ => zhr40) f 3 dp 0 ((s.1 + 1), s.2) (by decide) (by show (s.1 + 1) ≤ 40; omega)
      rcases e4 : zp (zhr t ln 40) as f 3 dp 0 ((s.1 + 1), s.2) with ⟨v4, p4, w4⟩
      rw [e4] at hb4; have hb4 : (s.1 + 1) ≤ p4 ∧ p4 ≤ 40 := hb4
      show eb_P _ _ 61 [(3, .int 1), (2, .int v), (0, .ref 112), (1, .int (nI dp))] (.int v4 :: []) (n, sl, kd, zpw I (p4, w4), L, Rf) _
      refine ep_istore (l' := [(4, .int v4), (3, .int 1), (2, .int v), (0, .ref 112), (1, .int (nI dp))]) dX11_sum_61 (by decide) rfl ?_
      refine ep_iload_n (i := 3) dX11_sum_63 rfl rfl ?_
      refine ep_if_eq (tgt := 74) dX11_sum_64 (by decide) (fun c5 => absurd c5 (by decide)) (fun c5 => ?_)
      refine ep_iload_n (i := 2) dX11_sum_67 rfl rfl ?_
      refine ep_iload (i := 4) dX11_sum_68 rfl ?_
      refine ep_iadd dX11_sum_70 ?_
      refine ep_goto (tgt := 78) dX11_sum_71 (by decide) ?_
      refine ep_istore_n (l' := [(2, .int (v + v4)), (4, .int v4), (3, .int 1), (0, .ref 112), (1, .int (nI dp))]) dX11_sum_78 rfl (by decide) rfl ?_
      refine ep_goto (tgt := 6) dX11_sum_79 (by decide) ?_
      have e : zp (zhr t ln 40) as (f + 1) 2 dp v s = zp (zhr t ln 40) as f 2 dp (v + v4) (p4, w4) := by rw [zp_sl]; rw [if_pos ⟨fi, by first | assumption | exact Classical.not_not.mp (by assumption)⟩]; show (let a := zp (zhr t ln 40) as f 3 dp 0 (s.1 + 1, s.2); _) = _; rw [e4]
      rw [e]
      refine ep_sub (l' := [(2, .int (v + v4)), (0, .ref 112), (1, .int (nI dp))]) [0, 3, 4] rfl ?_
      exact ih.2.2.1 (d + 6) dp _ (p4, w4) (by omega) (by show p4 ≤ 40; omega) hdp (by show 5 * (41 - p4) + 1 ≤ f; omega)
    · skip
      refine ep_aload_n (i := 0) dX11_sum_22 rfl rfl ?_
      refine ep_callV (M1 := mX11_here) (rest := []) dX11_sum_23 mlX11_128 mvX11_here rfl (hF.lt (by decide)) (hF.kc (by decide) rfl) (Nat.le_of_ble_eq_true rfl) rfl (q_X11_here (s := (s.1, s.2)) (d + 5) hP (by show s.1 < 1000; omega)) eb_rok ?_
      rintro _ _ ⟨rfl, rfl⟩
      show eb_P _ _ 26 [(2, .int v), (0, .ref 112), (1, .int (nI dp))] (.int (zhr t ln 40 s.1) :: []) _ _
      refine ep_bipush (v := 45) dX11_sum_26 (by decide) ?_
      refine ep_icmp_ne (tgt := 82) dX11_sum_28 (by decide) (fun c6 => ?_) (fun c6 => ?_)
      · skip
        refine ep_iload_n (i := 2) dX11_sum_82 rfl rfl ?_
        refine ep_iret dX11_sum_83 rfl rfl ?_
        have e : zp (zhr t ln 40) as (f + 1) 2 dp v s = (v, s) := by rw [zp_sl]; rw [if_neg (fun g => by first | exact absurd g.1 (by assumption) | exact absurd g.2 (by assumption)), if_neg (fun g => by first | exact absurd g.1 (by assumption) | exact absurd g.2 (by assumption))]
        exact ⟨by rw [e], by rw [e]⟩
      · skip
        have hq : s.1 < 40 := zhr40 (t := t) (ln := ln) (fun e => by first | exact absurd ((show zhr t ln 40 s.1 = 43 by first | assumption | exact Classical.not_not.mp (by assumption)).symm.trans e) (by decide) | exact absurd ((show zhr t ln 40 s.1 = 45 by first | assumption | exact Classical.not_not.mp (by assumption)).symm.trans e) (by decide))
        refine ep_aload_n (i := 0) dX11_sum_31 rfl rfl ?_
        refine ep_callV (M1 := mX11_here) (rest := []) dX11_sum_32 mlX11_128 mvX11_here rfl (hF.lt (by decide)) (hF.kc (by decide) rfl) (Nat.le_of_ble_eq_true rfl) rfl (q_X11_here (s := (s.1, s.2)) (d + 5) hP (by show s.1 < 1000; omega)) eb_rok ?_
        rintro _ _ ⟨rfl, rfl⟩
        show eb_P _ _ 35 [(2, .int v), (0, .ref 112), (1, .int (nI dp))] (.int (zhr t ln 40 s.1) :: []) _ _
        refine ep_bipush (v := 43) dX11_sum_35 (by decide) ?_
        refine ep_icmp_ne (tgt := 44) dX11_sum_37 (by decide) (fun c7 => ?_) (fun c7 => absurd (by assumption) c7)
        refine ep_iconst (v := 0) dX11_sum_44 (by decide) ?_
        refine ep_istore_n (l' := [(3, .int 0), (2, .int v), (0, .ref 112), (1, .int (nI dp))]) dX11_sum_45 rfl (by decide) rfl ?_
        refine ep_aload_n (i := 0) dX11_sum_46 rfl rfl ?_
        refine ep_dup dX11_sum_47 rfl ?_
        refine ep_getI dX11_sum_48 flX11_114 (hF.lt (by decide)) (hF.kc (by decide) rfl) ?_
        refine ep_topE (y := nI s.1) zpw_13 ?_
        refine ep_iconst (v := 1) dX11_sum_51 (by decide) ?_
        refine ep_iadd dX11_sum_52 ?_
        refine ep_topE (y := nI (s.1 + 1)) (nI_add _ _) ?_
        refine ep_pI dX11_sum_53 plX11_114 (hF.lt (by decide)) (hF.lx (by decide)) (hF.kc (by decide) rfl) rfl rfl ?_
        refine ep_eq (σ2 := (n, sl, kd, zpw I ((s.1 + 1), s.2), L, Rf)) rfl rfl rfl (by rw [zpw_s13]) ?_
        refine ep_aload_n (i := 0) dX11_sum_56 rfl rfl ?_
        refine ep_iload_n (i := 1) dX11_sum_57 rfl rfl ?_
        refine ep_callV (M1 := mX11_product) (rest := []) dX11_sum_58 mlX11_163 mvX11_product rfl (hF.lt (by decide)) (hF.kc (by decide) rfl) (Nat.le_of_ble_eq_true rfl) rfl (ih.2.2.2.1 (d + 5) dp ((s.1 + 1), s.2) (by omega) (by show (s.1 + 1) ≤ 40; omega) (by omega) (by show 5 * (41 - ((s.1 + 1))) + _ ≤ f; omega)) (fun _ _ g => Or.inl (by rw [g.1])) ?_
        rintro _ _ ⟨rfl, rfl⟩
        have hb8 := zp_bd (hr := (zhr t ln 40)) (as := as) (fun _ => zhr40) f 3 dp 0 ((s.1 + 1), s.2) (by decide) (by show (s.1 + 1) ≤ 40; omega)
        rcases e8 : zp (zhr t ln 40) as f 3 dp 0 ((s.1 + 1), s.2) with ⟨v8, p8, w8⟩
        rw [e8] at hb8; have hb8 : (s.1 + 1) ≤ p8 ∧ p8 ≤ 40 := hb8
        show eb_P _ _ 61 [(3, .int 0), (2, .int v), (0, .ref 112), (1, .int (nI dp))] (.int v8 :: []) (n, sl, kd, zpw I (p8, w8), L, Rf) _
        refine ep_istore (l' := [(4, .int v8), (3, .int 0), (2, .int v), (0, .ref 112), (1, .int (nI dp))]) dX11_sum_61 (by decide) rfl ?_
        refine ep_iload_n (i := 3) dX11_sum_63 rfl rfl ?_
        refine ep_if_eq (tgt := 74) dX11_sum_64 (by decide) (fun c9 => ?_) (fun c9 => absurd (by decide) c9)
        refine ep_iload_n (i := 2) dX11_sum_74 rfl rfl ?_
        refine ep_iload (i := 4) dX11_sum_75 rfl ?_
        refine ep_isub dX11_sum_77 ?_
        refine ep_istore_n (l' := [(2, .int (v - v8)), (4, .int v8), (3, .int 0), (0, .ref 112), (1, .int (nI dp))]) dX11_sum_78 rfl (by decide) rfl ?_
        refine ep_goto (tgt := 6) dX11_sum_79 (by decide) ?_
        have e : zp (zhr t ln 40) as (f + 1) 2 dp v s = zp (zhr t ln 40) as f 2 dp (v - v8) (p8, w8) := by rw [zp_sl]; rw [if_neg (fun g => absurd g.2 (by assumption))]; rw [if_pos ⟨fi, by first | assumption | exact Classical.not_not.mp (by assumption)⟩]; show (let a := zp (zhr t ln 40) as f 3 dp 0 (s.1 + 1, s.2); _) = _; rw [e8]
        rw [e]
        refine ep_sub (l' := [(2, .int (v - v8)), (0, .ref 112), (1, .int (nI dp))]) [0, 3, 4] rfl ?_
        exact ih.2.2.1 (d + 6) dp _ (p8, w8) (by omega) (by show p8 ≤ 40; omega) hdp (by show 5 * (41 - p8) + 1 ≤ f; omega)
  · show eb_P _ _ 10 [(2, .int v), (0, .ref 112), (1, .int (nI dp))] (.int 0 :: []) _ _
    refine ep_if_eq (tgt := 82) dX11_sum_10 (by decide) (fun c10 => ?_) (fun c10 => absurd (by decide) c10)
    refine ep_iload_n (i := 2) dX11_sum_82 rfl rfl ?_
    refine ep_iret dX11_sum_83 rfl rfl ?_
    have e : zp (zhr t ln 40) as (f + 1) 2 dp v s = (v, s) := by rw [zp_sl]; rw [if_neg (fun g => by first | exact absurd g.1 (by assumption) | exact absurd g.2 (by assumption)), if_neg (fun g => by first | exact absurd g.1 (by assumption) | exact absurd g.2 (by assumption))]
    exact ⟨by rw [e], by rw [e]⟩
theorem zs_X11_product {n : Nat} {sl : Nat × Nat} {kd : Nat → Nat × Nat} {I : Nat → Nat → Int32} {L : Nat → Nat → Int64} {Rf : Nat → Nat → Option Nat} {rc m ln : Nat} {t as : Nat → Int32} {f : Nat} (hP : zpc n kd I Rf rc m ln 40 t) (hA : (I 112 19 = 1 ∧ ∀ q, q < 7 → I 121 q = as q) ∨ (I 112 19 = 0 ∧ ∀ q, as q = 0)) (ih : zPa n sl kd I L Rf ln t as f) : zPm n sl kd I L Rf ln t as (f + 1) mX11_product 3 2 := by
  intro D dp s hD hs hdp hmu
  obtain ⟨d, rfl⟩ : ∃ d, D = d + 5 + 1 := ⟨D - 6, by omega⟩
  have hF := hP.F; have hln := hP.ml; have hp : s.1 < 900 := (by omega)
  refine ep_meth pn_X.2.2.2.2.2.2.2.2.2.2.2 (Nat.le_of_ble_eq_true rfl) ?_
  show eb_P _ _ 0 [(0, .ref 112), (1, .int (nI dp))] [] (n, sl, kd, zpw I (s.1, s.2), L, Rf) _
  refine ep_aload_n (i := 0) dX11_product_0 rfl rfl ?_
  refine ep_iload_n (i := 1) dX11_product_1 rfl rfl ?_
  refine ep_callV (M1 := mX11_thing) (rest := []) dX11_product_2 mlX11_166 mvX11_thing rfl (hF.lt (by decide)) (hF.kc (by decide) rfl) (Nat.le_of_ble_eq_true rfl) rfl (ih.2.2.2.2.2 (d + 5) dp (s.1, s.2) (by omega) (by show s.1 ≤ 40; omega) (by omega) (by show 5 * (41 - (s.1)) + _ ≤ f; omega)) (fun _ _ g => Or.inl (by rw [g.1])) ?_
  rintro _ _ ⟨rfl, rfl⟩
  have hb1 := zp_bd (hr := (zhr t ln 40)) (as := as) (fun _ => zhr40) f 5 dp 0 (s.1, s.2) (by decide) (by show s.1 ≤ 40; omega)
  rcases e1 : zp (zhr t ln 40) as f 5 dp 0 (s.1, s.2) with ⟨v1, p1, w1⟩
  rw [e1] at hb1; have hb1 : s.1 ≤ p1 ∧ p1 ≤ 40 := hb1
  show eb_P _ _ 5 [(0, .ref 112), (1, .int (nI dp))] (.int v1 :: []) (n, sl, kd, zpw I (p1, w1), L, Rf) _
  refine ep_istore_n (l' := [(2, .int v1), (0, .ref 112), (1, .int (nI dp))]) dX11_product_5 rfl (by decide) rfl ?_
  have e : zp (zhr t ln 40) as (f + 1) 3 dp 0 s = zp (zhr t ln 40) as f 4 dp v1 (p1, w1) := by rw [zp_p]; show zp (zhr t ln 40) as f 4 dp (zp (zhr t ln 40) as f 5 dp 0 (s.1, s.2)).1 (zp (zhr t ln 40) as f 5 dp 0 (s.1, s.2)).2 = _; rw [e1]
  rw [e]
  exact ih.2.2.2.2.1 (d + 6) dp _ (p1, w1) (by omega) (by show p1 ≤ 40; omega) hdp (by show 5 * (41 - p1) + 1 ≤ f; omega)
theorem zl_X11_product {n : Nat} {sl : Nat × Nat} {kd : Nat → Nat × Nat} {I : Nat → Nat → Int32} {L : Nat → Nat → Int64} {Rf : Nat → Nat → Option Nat} {rc m ln : Nat} {t as : Nat → Int32} {f : Nat} (hP : zpc n kd I Rf rc m ln 40 t) (hA : (I 112 19 = 1 ∧ ∀ q, q < 7 → I 121 q = as q) ∨ (I 112 19 = 0 ∧ ∀ q, as q = 0)) (ih : zPa n sl kd I L Rf ln t as f) : zPl n sl kd I L Rf ln t as (f + 1) mX11_product 4 := by
  intro D dp v s hD hs hdp hmu
  obtain ⟨d, rfl⟩ : ∃ d, D = d + 5 + 1 := ⟨D - 6, by omega⟩
  have hF := hP.F; have hln := hP.ml; have hp : s.1 < 900 := (by omega)
  show eb_P _ _ 6 [(2, .int v), (0, .ref 112), (1, .int (nI dp))] [] (n, sl, kd, zpw I (s.1, s.2), L, Rf) _
  refine ep_aload_n (i := 0) dX11_product_6 rfl rfl ?_
  refine ep_callV (M1 := mX11_fine) (rest := []) dX11_product_7 mlX11_124 mvX11_fine rfl (hF.lt (by decide)) (hF.kc (by decide) rfl) (Nat.le_of_ble_eq_true rfl) rfl (q_X11_fine (s := (s.1, s.2)) (d + 5) hP (by show s.1 < 1000; omega)) eb_bok ?_
  rintro _ _ ⟨rfl, ⟨fi, rfl⟩ | ⟨fi, rfl⟩⟩
  · show eb_P _ _ 10 [(2, .int v), (0, .ref 112), (1, .int (nI dp))] (.int 1 :: []) _ _
    refine ep_if_eq (tgt := 91) dX11_product_10 (by decide) (fun c1 => absurd c1 (by decide)) (fun c1 => ?_)
    refine ep_aload_n (i := 0) dX11_product_13 rfl rfl ?_
    refine ep_callV (M1 := mX11_here) (rest := []) dX11_product_14 mlX11_128 mvX11_here rfl (hF.lt (by decide)) (hF.kc (by decide) rfl) (Nat.le_of_ble_eq_true rfl) rfl (q_X11_here (s := (s.1, s.2)) (d + 5) hP (by show s.1 < 1000; omega)) eb_rok ?_
    rintro _ _ ⟨rfl, rfl⟩
    show eb_P _ _ 17 [(2, .int v), (0, .ref 112), (1, .int (nI dp))] (.int (zhr t ln 40 s.1) :: []) _ _
    refine ep_bipush (v := 42) dX11_product_17 (by decide) ?_
    refine ep_icmp_eq (tgt := 31) dX11_product_19 (by decide) (fun c2 => ?_) (fun c2 => ?_)
    · skip
      have hq : s.1 < 40 := zhr40 (t := t) (ln := ln) (fun e => by first | exact absurd ((show zhr t ln 40 s.1 = 42 by first | assumption | exact Classical.not_not.mp (by assumption)).symm.trans e) (by decide) | exact absurd ((show zhr t ln 40 s.1 = 47 by first | assumption | exact Classical.not_not.mp (by assumption)).symm.trans e) (by decide))
      refine ep_aload_n (i := 0) dX11_product_31 rfl rfl ?_
      refine ep_callV (M1 := mX11_here) (rest := []) dX11_product_32 mlX11_128 mvX11_here rfl (hF.lt (by decide)) (hF.kc (by decide) rfl) (Nat.le_of_ble_eq_true rfl) rfl (q_X11_here (s := (s.1, s.2)) (d + 5) hP (by show s.1 < 1000; omega)) eb_rok ?_
      rintro _ _ ⟨rfl, rfl⟩
      show eb_P _ _ 35 [(2, .int v), (0, .ref 112), (1, .int (nI dp))] (.int (zhr t ln 40 s.1) :: []) _ _
      refine ep_bipush (v := 42) dX11_product_35 (by decide) ?_
      refine ep_icmp_ne (tgt := 44) dX11_product_37 (by decide) (fun c3 => absurd c3 (fun g => g (by assumption))) (fun c3 => ?_)
      refine ep_iconst (v := 1) dX11_product_40 (by decide) ?_
      refine ep_goto (tgt := 45) dX11_product_41 (by decide) ?_
      refine ep_istore_n (l' := [(3, .int 1), (2, .int v), (0, .ref 112), (1, .int (nI dp))]) dX11_product_45 rfl (by decide) rfl ?_
      refine ep_aload_n (i := 0) dX11_product_46 rfl rfl ?_
      refine ep_dup dX11_product_47 rfl ?_
      refine ep_getI dX11_product_48 flX11_114 (hF.lt (by decide)) (hF.kc (by decide) rfl) ?_
      refine ep_topE (y := nI s.1) zpw_13 ?_
      refine ep_iconst (v := 1) dX11_product_51 (by decide) ?_
      refine ep_iadd dX11_product_52 ?_
      refine ep_topE (y := nI (s.1 + 1)) (nI_add _ _) ?_
      refine ep_pI dX11_product_53 plX11_114 (hF.lt (by decide)) (hF.lx (by decide)) (hF.kc (by decide) rfl) rfl rfl ?_
      refine ep_eq (σ2 := (n, sl, kd, zpw I ((s.1 + 1), s.2), L, Rf)) rfl rfl rfl (by rw [zpw_s13]) ?_
      refine ep_aload_n (i := 0) dX11_product_56 rfl rfl ?_
      refine ep_iload_n (i := 1) dX11_product_57 rfl rfl ?_
      refine ep_callV (M1 := mX11_thing) (rest := []) dX11_product_58 mlX11_166 mvX11_thing rfl (hF.lt (by decide)) (hF.kc (by decide) rfl) (Nat.le_of_ble_eq_true rfl) rfl (ih.2.2.2.2.2 (d + 5) dp ((s.1 + 1), s.2) (by omega) (by show (s.1 + 1) ≤ 40; omega) (by omega) (by show 5 * (41 - ((s.1 + 1))) + _ ≤ f; omega)) (fun _ _ g => Or.inl (by rw [g.1])) ?_
      rintro _ _ ⟨rfl, rfl⟩
      have hb4 := zp_bd (hr := (zhr t ln 40)) (as := as) (fun _ => zhr40) f 5 dp 0 ((s.1 + 1), s.2) (by decide) (by show (s.1 + 1) ≤ 40; omega)
      rcases e4 : zp (zhr t ln 40) as f 5 dp 0 ((s.1 + 1), s.2) with ⟨v4, p4, w4⟩
      rw [e4] at hb4; have hb4 : (s.1 + 1) ≤ p4 ∧ p4 ≤ 40 := hb4
      show eb_P _ _ 61 [(3, .int 1), (2, .int v), (0, .ref 112), (1, .int (nI dp))] (.int v4 :: []) (n, sl, kd, zpw I (p4, w4), L, Rf) _
      refine ep_istore (l' := [(4, .int v4), (3, .int 1), (2, .int v), (0, .ref 112), (1, .int (nI dp))]) dX11_product_61 (by decide) rfl ?_
      refine ep_iload_n (i := 3) dX11_product_63 rfl rfl ?_
      refine ep_if_eq (tgt := 74) dX11_product_64 (by decide) (fun c5 => absurd c5 (by decide)) (fun c5 => ?_)
      refine ep_iload_n (i := 2) dX11_product_67 rfl rfl ?_
      refine ep_iload (i := 4) dX11_product_68 rfl ?_
      refine ep_imul dX11_product_70 ?_
      refine ep_goto (tgt := 87) dX11_product_71 (by decide) ?_
      refine ep_istore_n (l' := [(2, .int (v * v4)), (4, .int v4), (3, .int 1), (0, .ref 112), (1, .int (nI dp))]) dX11_product_87 rfl (by decide) rfl ?_
      refine ep_goto (tgt := 6) dX11_product_88 (by decide) ?_
      have e : zp (zhr t ln 40) as (f + 1) 4 dp v s = zp (zhr t ln 40) as f 4 dp (v * v4) (p4, w4) := by rw [zp_pl]; rw [if_pos ⟨fi, by first | assumption | exact Classical.not_not.mp (by assumption)⟩]; show (let a := zp (zhr t ln 40) as f 5 dp 0 (s.1 + 1, s.2); _) = _; rw [e4]
      rw [e]
      refine ep_sub (l' := [(2, .int (v * v4)), (0, .ref 112), (1, .int (nI dp))]) [0, 3, 4] rfl ?_
      exact ih.2.2.2.2.1 (d + 6) dp _ (p4, w4) (by omega) (by show p4 ≤ 40; omega) hdp (by show 5 * (41 - p4) + 1 ≤ f; omega)
    · skip
      refine ep_aload_n (i := 0) dX11_product_22 rfl rfl ?_
      refine ep_callV (M1 := mX11_here) (rest := []) dX11_product_23 mlX11_128 mvX11_here rfl (hF.lt (by decide)) (hF.kc (by decide) rfl) (Nat.le_of_ble_eq_true rfl) rfl (q_X11_here (s := (s.1, s.2)) (d + 5) hP (by show s.1 < 1000; omega)) eb_rok ?_
      rintro _ _ ⟨rfl, rfl⟩
      show eb_P _ _ 26 [(2, .int v), (0, .ref 112), (1, .int (nI dp))] (.int (zhr t ln 40 s.1) :: []) _ _
      refine ep_bipush (v := 47) dX11_product_26 (by decide) ?_
      refine ep_icmp_ne (tgt := 91) dX11_product_28 (by decide) (fun c6 => ?_) (fun c6 => ?_)
      · skip
        refine ep_iload_n (i := 2) dX11_product_91 rfl rfl ?_
        refine ep_iret dX11_product_92 rfl rfl ?_
        have e : zp (zhr t ln 40) as (f + 1) 4 dp v s = (v, s) := by rw [zp_pl]; rw [if_neg (fun g => by first | exact absurd g.1 (by assumption) | exact absurd g.2 (by assumption)), if_neg (fun g => by first | exact absurd g.1 (by assumption) | exact absurd g.2 (by assumption))]
        exact ⟨by rw [e], by rw [e]⟩
      · skip
        have hq : s.1 < 40 := zhr40 (t := t) (ln := ln) (fun e => by first | exact absurd ((show zhr t ln 40 s.1 = 42 by first | assumption | exact Classical.not_not.mp (by assumption)).symm.trans e) (by decide) | exact absurd ((show zhr t ln 40 s.1 = 47 by first | assumption | exact Classical.not_not.mp (by assumption)).symm.trans e) (by decide))
        refine ep_aload_n (i := 0) dX11_product_31 rfl rfl ?_
        refine ep_callV (M1 := mX11_here) (rest := []) dX11_product_32 mlX11_128 mvX11_here rfl (hF.lt (by decide)) (hF.kc (by decide) rfl) (Nat.le_of_ble_eq_true rfl) rfl (q_X11_here (s := (s.1, s.2)) (d + 5) hP (by show s.1 < 1000; omega)) eb_rok ?_
        rintro _ _ ⟨rfl, rfl⟩
        show eb_P _ _ 35 [(2, .int v), (0, .ref 112), (1, .int (nI dp))] (.int (zhr t ln 40 s.1) :: []) _ _
        refine ep_bipush (v := 42) dX11_product_35 (by decide) ?_
        refine ep_icmp_ne (tgt := 44) dX11_product_37 (by decide) (fun c7 => ?_) (fun c7 => absurd (by assumption) c7)
        refine ep_iconst (v := 0) dX11_product_44 (by decide) ?_
        refine ep_istore_n (l' := [(3, .int 0), (2, .int v), (0, .ref 112), (1, .int (nI dp))]) dX11_product_45 rfl (by decide) rfl ?_
        refine ep_aload_n (i := 0) dX11_product_46 rfl rfl ?_
        refine ep_dup dX11_product_47 rfl ?_
        refine ep_getI dX11_product_48 flX11_114 (hF.lt (by decide)) (hF.kc (by decide) rfl) ?_
        refine ep_topE (y := nI s.1) zpw_13 ?_
        refine ep_iconst (v := 1) dX11_product_51 (by decide) ?_
        refine ep_iadd dX11_product_52 ?_
        refine ep_topE (y := nI (s.1 + 1)) (nI_add _ _) ?_
        refine ep_pI dX11_product_53 plX11_114 (hF.lt (by decide)) (hF.lx (by decide)) (hF.kc (by decide) rfl) rfl rfl ?_
        refine ep_eq (σ2 := (n, sl, kd, zpw I ((s.1 + 1), s.2), L, Rf)) rfl rfl rfl (by rw [zpw_s13]) ?_
        refine ep_aload_n (i := 0) dX11_product_56 rfl rfl ?_
        refine ep_iload_n (i := 1) dX11_product_57 rfl rfl ?_
        refine ep_callV (M1 := mX11_thing) (rest := []) dX11_product_58 mlX11_166 mvX11_thing rfl (hF.lt (by decide)) (hF.kc (by decide) rfl) (Nat.le_of_ble_eq_true rfl) rfl (ih.2.2.2.2.2 (d + 5) dp ((s.1 + 1), s.2) (by omega) (by show (s.1 + 1) ≤ 40; omega) (by omega) (by show 5 * (41 - ((s.1 + 1))) + _ ≤ f; omega)) (fun _ _ g => Or.inl (by rw [g.1])) ?_
        rintro _ _ ⟨rfl, rfl⟩
        have hb8 := zp_bd (hr := (zhr t ln 40)) (as := as) (fun _ => zhr40) f 5 dp 0 ((s.1 + 1), s.2) (by decide) (by show (s.1 + 1) ≤ 40; omega)
        rcases e8 : zp (zhr t ln 40) as f 5 dp 0 ((s.1 + 1), s.2) with ⟨v8, p8, w8⟩
        rw [e8] at hb8; have hb8 : (s.1 + 1) ≤ p8 ∧ p8 ≤ 40 := hb8
        show eb_P _ _ 61 [(3, .int 0), (2, .int v), (0, .ref 112), (1, .int (nI dp))] (.int v8 :: []) (n, sl, kd, zpw I (p8, w8), L, Rf) _
        refine ep_istore (l' := [(4, .int v8), (3, .int 0), (2, .int v), (0, .ref 112), (1, .int (nI dp))]) dX11_product_61 (by decide) rfl ?_
        refine ep_iload_n (i := 3) dX11_product_63 rfl rfl ?_
        refine ep_if_eq (tgt := 74) dX11_product_64 (by decide) (fun c9 => ?_) (fun c9 => absurd (by decide) c9)
        refine ep_iload (i := 4) dX11_product_74 rfl ?_
        refine ep_if_ne (tgt := 83) dX11_product_76 (by decide) (fun c10 => ?_) (fun c10 => ?_)
        · skip
          refine ep_iload_n (i := 2) dX11_product_83 rfl rfl ?_
          refine ep_iload (i := 4) dX11_product_84 rfl ?_
          refine ep_idiv dX11_product_86 (by assumption) ?_
          refine ep_istore_n (l' := [(2, .int (v / v8)), (4, .int v8), (3, .int 0), (0, .ref 112), (1, .int (nI dp))]) dX11_product_87 rfl (by decide) rfl ?_
          refine ep_goto (tgt := 6) dX11_product_88 (by decide) ?_
          have e : zp (zhr t ln 40) as (f + 1) 4 dp v s = zp (zhr t ln 40) as f 4 dp (v / v8) (p8, w8) := by rw [zp_pl]; rw [if_neg (fun g => absurd g.2 (by assumption))]; rw [if_pos ⟨fi, by first | assumption | exact Classical.not_not.mp (by assumption)⟩]; show (let a := zp (zhr t ln 40) as f 5 dp 0 (s.1 + 1, s.2); _) = _; rw [e8]; simp only; rw [if_neg (by assumption)]
          rw [e]
          refine ep_sub (l' := [(2, .int (v / v8)), (0, .ref 112), (1, .int (nI dp))]) [0, 3, 4] rfl ?_
          exact ih.2.2.2.2.1 (d + 6) dp _ (p8, w8) (by omega) (by show p8 ≤ 40; omega) hdp (by show 5 * (41 - p8) + 1 ≤ f; omega)
        · skip
          refine ep_iconst (v := 0) dX11_product_79 (by decide) ?_
          refine ep_goto (tgt := 87) dX11_product_80 (by decide) ?_
          refine ep_istore_n (l' := [(2, .int 0), (4, .int v8), (3, .int 0), (0, .ref 112), (1, .int (nI dp))]) dX11_product_87 rfl (by decide) rfl ?_
          refine ep_goto (tgt := 6) dX11_product_88 (by decide) ?_
          have e : zp (zhr t ln 40) as (f + 1) 4 dp v s = zp (zhr t ln 40) as f 4 dp 0 (p8, w8) := by rw [zp_pl]; rw [if_neg (fun g => absurd g.2 (by assumption))]; rw [if_pos ⟨fi, by first | assumption | exact Classical.not_not.mp (by assumption)⟩]; show (let a := zp (zhr t ln 40) as f 5 dp 0 (s.1 + 1, s.2); _) = _; rw [e8]; simp only; rw [if_pos (Classical.not_not.mp (by assumption))]
          rw [e]
          refine ep_sub (l' := [(2, .int 0), (0, .ref 112), (1, .int (nI dp))]) [0, 3, 4] rfl ?_
          exact ih.2.2.2.2.1 (d + 6) dp _ (p8, w8) (by omega) (by show p8 ≤ 40; omega) hdp (by show 5 * (41 - p8) + 1 ≤ f; omega)
  · show eb_P _ _ 10 [(2, .int v), (0, .ref 112), (1, .int (nI dp))] (.int 0 :: []) _ _
    refine ep_if_eq (tgt := 91) dX11_product_10 (by decide) (fun c11 => ?_) (fun c11 => absurd (by decide) c11)
    refine ep_iload_n (i := 2) dX11_product_91 rfl rfl ?_
    refine ep_iret dX11_product_92 rfl rfl ?_
    have e : zp (zhr t ln 40) as (f + 1) 4 dp v s = (v, s) := by rw [zp_pl]; rw [if_neg (fun g => by first | exact absurd g.1 (by assumption) | exact absurd g.2 (by assumption)), if_neg (fun g => by first | exact absurd g.1 (by assumption) | exact absurd g.2 (by assumption))]
    exact ⟨by rw [e], by rw [e]⟩
theorem zs_X11_thing {n : Nat} {sl : Nat × Nat} {kd : Nat → Nat × Nat} {I : Nat → Nat → Int32} {L : Nat → Nat → Int64} {Rf : Nat → Nat → Option Nat} {rc m ln : Nat} {t as : Nat → Int32} {f : Nat} (hP : zpc n kd I Rf rc m ln 40 t) (hA : (I 112 19 = 1 ∧ ∀ q, q < 7 → I 121 q = as q) ∨ (I 112 19 = 0 ∧ ∀ q, as q = 0)) (ih : zPa n sl kd I L Rf ln t as f) : zPm n sl kd I L Rf ln t as (f + 1) mX11_thing 5 1 := by
  intro D dp s hD hs hdp hmu
  obtain ⟨d, rfl⟩ : ∃ d, D = d + 5 + 1 := ⟨D - 6, by omega⟩
  have hF := hP.F; have hln := hP.ml; have hp : s.1 < 900 := (by omega)
  refine ep_meth pn_X.2.2.2.2.2.2.2.2.2.2.2 (Nat.le_of_ble_eq_true rfl) ?_
  show eb_P _ _ 0 [(0, .ref 112), (1, .int (nI dp))] [] (n, sl, kd, zpw I (s.1, s.2), L, Rf) _
  refine ep_aload_n (i := 0) dX11_thing_0 rfl rfl ?_
  refine ep_bipush (v := 45) dX11_thing_1 (by decide) ?_
  refine ep_callV (M1 := mX11_passes) (rest := []) dX11_thing_3 mlX11_132 mvX11_passes rfl (hF.lt (by decide)) (hF.kc (by decide) rfl) (Nat.le_of_ble_eq_true rfl) rfl (q_X11_passes (s := (s.1, s.2)) (d + 4) hP (by show s.1 < 1000; omega) 45) zpb_ok ?_
  rintro _ _ (⟨z1, rfl, rfl⟩ | ⟨z1, rfl, rfl⟩)
  · show eb_P _ _ 6 [(0, .ref 112), (1, .int (nI dp))] (.int 1 :: []) (n, sl, kd, zpw I (s.1 + 1, s.2), L, Rf) _
    have hqz1 : s.1 < 40 := zhr40 (t := t) (ln := ln) (fun e => absurd (z1.2.symm.trans e) (by decide))
    refine ep_if_eq (tgt := 16) dX11_thing_6 (by decide) (fun c2 => absurd c2 (by decide)) (fun c2 => ?_)
    refine ep_aload_n (i := 0) dX11_thing_9 rfl rfl ?_
    refine ep_iload_n (i := 1) dX11_thing_10 rfl rfl ?_
    refine ep_callV (M1 := mX11_thing) (rest := []) dX11_thing_11 mlX11_166 mvX11_thing rfl (hF.lt (by decide)) (hF.kc (by decide) rfl) (Nat.le_of_ble_eq_true rfl) rfl (ih.2.2.2.2.2 (d + 5) dp (s.1 + 1, s.2) (by omega) (by show s.1 + 1 ≤ 40; omega) (by omega) (by show 5 * (41 - (s.1 + 1)) + _ ≤ f; omega)) (fun _ _ g => Or.inl (by rw [g.1])) ?_
    rintro _ _ ⟨rfl, rfl⟩
    have hb3 := zp_bd (hr := (zhr t ln 40)) (as := as) (fun _ => zhr40) f 5 dp 0 (s.1 + 1, s.2) (by decide) (by show s.1 + 1 ≤ 40; omega)
    rcases e3 : zp (zhr t ln 40) as f 5 dp 0 (s.1 + 1, s.2) with ⟨v3, p3, w3⟩
    rw [e3] at hb3; have hb3 : s.1 + 1 ≤ p3 ∧ p3 ≤ 40 := hb3
    show eb_P _ _ 14 [(0, .ref 112), (1, .int (nI dp))] (.int v3 :: []) (n, sl, kd, zpw I (p3, w3), L, Rf) _
    refine ep_ineg dX11_thing_14 ?_
    refine ep_iret dX11_thing_15 rfl rfl ?_
    have e : zp (zhr t ln 40) as (f + 1) 5 dp 0 s = (-v3, (p3, w3)) := by
      rw [zp_t]
      rw [if_pos z1]
      show (let a := zp (zhr t ln 40) as f 5 dp 0 (s.1 + 1, s.2); _) = _
      rw [e3]
    exact ⟨by rw [e], by rw [e]⟩
  · show eb_P _ _ 6 [(0, .ref 112), (1, .int (nI dp))] (.int 0 :: []) (n, sl, kd, zpw I (s.1, s.2), L, Rf) _
    refine ep_if_eq (tgt := 16) dX11_thing_6 (by decide) (fun c4 => ?_) (fun c4 => absurd (by decide) c4)
    refine ep_aload_n (i := 0) dX11_thing_16 rfl rfl ?_
    refine ep_callV (M1 := mX11_fine) (rest := []) dX11_thing_17 mlX11_124 mvX11_fine rfl (hF.lt (by decide)) (hF.kc (by decide) rfl) (Nat.le_of_ble_eq_true rfl) rfl (q_X11_fine (s := (s.1, s.2)) (d + 5) hP (by show s.1 < 1000; omega)) eb_bok ?_
    rintro _ _ ⟨rfl, ⟨fi, rfl⟩ | ⟨fi, rfl⟩⟩
    · show eb_P _ _ 20 [(0, .ref 112), (1, .int (nI dp))] (.int 1 :: []) _ _
      refine ep_if_ne (tgt := 25) dX11_thing_20 (by decide) (fun c5 => ?_) (fun c5 => absurd (by decide) c5)
      refine ep_aload_n (i := 0) dX11_thing_25 rfl rfl ?_
      refine ep_callV (M1 := mX11_here) (rest := []) dX11_thing_26 mlX11_128 mvX11_here rfl (hF.lt (by decide)) (hF.kc (by decide) rfl) (Nat.le_of_ble_eq_true rfl) rfl (q_X11_here (s := (s.1, s.2)) (d + 5) hP (by show s.1 < 1000; omega)) eb_rok ?_
      rintro _ _ ⟨rfl, rfl⟩
      show eb_P _ _ 29 [(0, .ref 112), (1, .int (nI dp))] (.int (zhr t ln 40 s.1) :: []) _ _
      refine ep_istore_n (l' := [(2, .int (zhr t ln 40 s.1)), (0, .ref 112), (1, .int (nI dp))]) dX11_thing_29 rfl (by decide) rfl ?_
      refine ep_iload_n (i := 2) dX11_thing_30 rfl rfl ?_
      refine ep_bipush (v := 40) dX11_thing_31 (by decide) ?_
      refine ep_icmp_ne (tgt := 67) dX11_thing_33 (by decide) (fun c6 => ?_) (fun c6 => ?_)
      · skip
        refine ep_iload_n (i := 2) dX11_thing_67 rfl rfl ?_
        refine ep_bipush (v := 48) dX11_thing_68 (by decide) ?_
        refine ep_bipush (v := 57) dX11_thing_70 (by decide) ?_
        refine ep_callS (M1 := mX11_in) (rest := []) dX11_thing_72 mlX11_98 msX11_in rfl (Nat.le_of_ble_eq_true rfl) rfl (q_X11_in (d + 5) (zhr t ln 40 s.1) 48 57 (n, sl, kd, zpw I (s.1, s.2), L, Rf)) eb_bok ?_
        rintro _ _ ⟨rfl, ⟨hdg, rfl⟩ | ⟨hdg, rfl⟩⟩
        · show eb_P _ _ 75 [(2, .int (zhr t ln 40 s.1)), (0, .ref 112), (1, .int (nI dp))] (.int 1 :: []) _ _
          refine ep_if_eq (tgt := 84) dX11_thing_75 (by decide) (fun c7 => absurd c7 (by decide)) (fun c7 => ?_)
          refine ep_aload_n (i := 0) dX11_thing_78 rfl rfl ?_
          refine ep_iconst (v := 3) dX11_thing_79 (by decide) ?_
          refine ep_callV (M1 := mX11_number) (rest := []) dX11_thing_80 mlX11_176 mvX11_number rfl (hF.lt (by decide)) (hF.kc (by decide) rfl) (Nat.le_of_ble_eq_true rfl) rfl (q_X11_number (s := (s.1, s.2)) (d + 2) hP (by show s.1 < 900; omega)) (fun _ _ g => Or.inl (by rw [g.1])) ?_
          rintro _ _ ⟨rfl, rfl⟩
          show eb_P _ _ 83 [(2, .int (zhr t ln 40 s.1)), (0, .ref 112), (1, .int (nI dp))] (.int (zp_num (zhr t ln 40) 3 s).1 :: []) (n, sl, kd, zpw I ((zp_num (zhr t ln 40) 3 s).2.1, (zp_num (zhr t ln 40) 3 s).2.2), L, Rf) _
          refine ep_iret dX11_thing_83 rfl rfl ?_
          have e : zp (zhr t ln 40) as (f + 1) 5 dp 0 s = ((zp_num (zhr t ln 40) 3 s).1, ((zp_num (zhr t ln 40) 3 s).2.1, (zp_num (zhr t ln 40) 3 s).2.2)) := by
            rw [zp_t]
            rw [if_neg z1]
            rw [if_neg (fun g => g fi)]
            rw [if_neg (fun g => by first | exact absurd g.1 (by assumption) | exact absurd (nI_lt g.2 (by decide)) (Int32.not_lt.mpr (by assumption)))]
            rw [if_pos hdg]
          exact ⟨by rw [e], by rw [e]⟩
        · show eb_P _ _ 75 [(2, .int (zhr t ln 40 s.1)), (0, .ref 112), (1, .int (nI dp))] (.int 0 :: []) _ _
          refine ep_if_eq (tgt := 84) dX11_thing_75 (by decide) (fun c8 => ?_) (fun c8 => absurd (by decide) c8)
          refine ep_iload_n (i := 2) dX11_thing_84 rfl rfl ?_
          refine ep_callS (M1 := mX11_letterOf) (rest := []) dX11_thing_85 mlX11_179 msX11_letterOf rfl (Nat.le_of_ble_eq_true rfl) rfl (q_X11_letterOf (d + 5) (zhr t ln 40 s.1) (n, sl, kd, zpw I (s.1, s.2), L, Rf)) eb_rok ?_
          rintro _ _ ⟨rfl, rfl⟩
          show eb_P _ _ 88 [(2, .int (zhr t ln 40 s.1)), (0, .ref 112), (1, .int (nI dp))] (.int (z_li (zhr t ln 40 s.1)) :: []) _ _
          refine ep_iconst (v := (-1)) dX11_thing_88 (by decide) ?_
          refine ep_icmp_ne (tgt := 102) dX11_thing_89 (by decide) (fun c9 => ?_) (fun c9 => ?_)
          · skip
            have hli : z_li (zhr t ln 40 s.1) ≠ -1 := (by assumption)
            obtain ⟨q, hq, hqe⟩ := z_li7 hli
            refine ep_aload_n (i := 0) dX11_thing_102 rfl rfl ?_
            refine ep_dup dX11_thing_103 rfl ?_
            refine ep_getI dX11_thing_104 flX11_114 (hF.lt (by decide)) (hF.kc (by decide) rfl) ?_
            refine ep_topE (y := nI s.1) zpw_13 ?_
            refine ep_iconst (v := 1) dX11_thing_107 (by decide) ?_
            refine ep_iadd dX11_thing_108 ?_
            refine ep_topE (y := nI (s.1 + 1)) (nI_add _ _) ?_
            refine ep_pI dX11_thing_109 plX11_114 (hF.lt (by decide)) (hF.lx (by decide)) (hF.kc (by decide) rfl) rfl rfl ?_
            refine ep_eq (σ2 := (n, sl, kd, zpw I ((s.1 + 1), s.2), L, Rf)) rfl rfl rfl (by rw [zpw_s13]) ?_
            refine ep_aload_n (i := 0) dX11_thing_112 rfl rfl ?_
            refine ep_getI dX11_thing_113 flX11_182 (hF.lt (by decide)) (hF.kc (by decide) rfl) ?_
            refine ep_topE (y := I 112 19) (zpw_o (by decide) (by decide)) ?_
            refine ep_if_eq (tgt := 131) dX11_thing_116 (by decide) (fun c10 => ?_) (fun c10 => ?_)
            · skip
              refine ep_iconst (v := 0) dX11_thing_131 (by decide) ?_
              refine ep_iret dX11_thing_132 rfl rfl ?_
              have e : zp (zhr t ln 40) as (f + 1) 5 dp 0 s = (0, ((s.1 + 1), s.2)) := by
                rw [zp_t]
                rw [if_neg z1]
                rw [if_neg (fun g => g fi)]
                rw [if_neg (fun g => by first | exact absurd g.1 (by assumption) | exact absurd (nI_lt g.2 (by decide)) (Int32.not_lt.mpr (by assumption)))]
                rw [if_neg hdg]
                rw [if_neg hli]
                rw [show as (z_li (zhr t ln 40 s.1)).toNatClampNeg = 0 from (hA.elim (fun g => absurd (g.1.symm.trans (by assumption)) (by decide)) (fun g => g.2 _))]
              exact ⟨by rw [e], by rw [e]⟩
            · skip
              refine ep_aload_n (i := 0) dX11_thing_119 rfl rfl ?_
              refine ep_getR dX11_thing_120 flX11_40 (hF.lt (by decide)) (hF.kc (by decide) rfl) (hF.pt 114 rfl) ?_
              refine ep_iload_n (i := 2) dX11_thing_123 rfl rfl ?_
              refine ep_callS (M1 := mX11_letterOf) (rest := [.ref 121]) dX11_thing_124 mlX11_179 msX11_letterOf rfl (Nat.le_of_ble_eq_true rfl) rfl (q_X11_letterOf (d + 5) (zhr t ln 40 s.1) (n, sl, kd, zpw I ((s.1 + 1), s.2), L, Rf)) eb_rok ?_
              rintro _ _ ⟨rfl, rfl⟩
              show eb_P _ _ 127 [(2, .int (zhr t ln 40 s.1)), (0, .ref 112), (1, .int (nI dp))] (.int (z_li (zhr t ln 40 s.1)) :: [.ref 121]) _ _
              refine ep_topE (y := nI q) hqe ?_
              refine ep_iaN (k := q) dX11_thing_127 (hF.lt (by decide)) (hF.ka (by decide) rfl) (by omega) (by decide) ?_
              refine ep_topE (y := I 121 q) (by rw [zpw_ne (by decide)]) ?_
              refine ep_goto (tgt := 132) dX11_thing_128 (by decide) ?_
              refine ep_iret dX11_thing_132 rfl rfl ?_
              have e : zp (zhr t ln 40) as (f + 1) 5 dp 0 s = (I 121 q, ((s.1 + 1), s.2)) := by
                rw [zp_t]
                rw [if_neg z1]
                rw [if_neg (fun g => g fi)]
                rw [if_neg (fun g => by first | exact absurd g.1 (by assumption) | exact absurd (nI_lt g.2 (by decide)) (Int32.not_lt.mpr (by assumption)))]
                rw [if_neg hdg]
                rw [if_neg hli]
                rw [hqe, nI_clamp (by omega), show as q = I 121 q from (hA.elim (fun g => (g.2 q hq).symm) (fun g => absurd g.1 (by assumption)))]
              exact ⟨by rw [e], by rw [e]⟩
          · skip
            refine ep_aload_n (i := 0) dX11_thing_92 rfl rfl ?_
            refine ep_aload_n (i := 0) dX11_thing_93 rfl rfl ?_
            refine ep_getI dX11_thing_94 flX11_114 (hF.lt (by decide)) (hF.kc (by decide) rfl) ?_
            refine ep_topE (y := nI s.1) zpw_13 ?_
            refine ep_callV (M1 := mX11_fault) (rest := []) dX11_thing_97 mlX11_136 mvX11_fault rfl (hF.lt (by decide)) (hF.kc (by decide) rfl) (Nat.le_of_ble_eq_true rfl) rfl (q_X11_fault (s := (s.1, s.2)) (d + 4) hP (by show s.1 < 1000; omega) s.1) (eb_vok rfl) ?_
            rintro _ _ ⟨rfl, rfl⟩
            show eb_P _ _ 100 [(2, .int (zhr t ln 40 s.1)), (0, .ref 112), (1, .int (nI dp))] [] (n, sl, kd, zpw I ((zp_fault s.1 (s.1, s.2)).1, (zp_fault s.1 (s.1, s.2)).2), L, Rf) _
            refine ep_iconst (v := 0) dX11_thing_100 (by decide) ?_
            refine ep_iret dX11_thing_101 rfl rfl ?_
            have e : zp (zhr t ln 40) as (f + 1) 5 dp 0 s = (0, ((zp_fault s.1 (s.1, s.2)).1, (zp_fault s.1 (s.1, s.2)).2)) := by
              rw [zp_t]
              rw [if_neg z1]
              rw [if_neg (fun g => g fi)]
              rw [if_neg (fun g => by first | exact absurd g.1 (by assumption) | exact absurd (nI_lt g.2 (by decide)) (Int32.not_lt.mpr (by assumption)))]
              rw [if_neg hdg]
              rw [if_pos (Classical.not_not.mp (by assumption))]
            exact ⟨by rw [e], by rw [e]⟩
      · skip
        refine ep_iload_n (i := 1) dX11_thing_36 rfl rfl ?_
        refine ep_iconst (v := 4) dX11_thing_37 (by decide) ?_
        refine ep_icmp_ge (tgt := 67) dX11_thing_38 (by decide) (fun c11 => ?_) (fun c11 => ?_)
        · skip
          refine ep_iload_n (i := 2) dX11_thing_67 rfl rfl ?_
          refine ep_bipush (v := 48) dX11_thing_68 (by decide) ?_
          refine ep_bipush (v := 57) dX11_thing_70 (by decide) ?_
          refine ep_callS (M1 := mX11_in) (rest := []) dX11_thing_72 mlX11_98 msX11_in rfl (Nat.le_of_ble_eq_true rfl) rfl (q_X11_in (d + 5) (zhr t ln 40 s.1) 48 57 (n, sl, kd, zpw I (s.1, s.2), L, Rf)) eb_bok ?_
          rintro _ _ ⟨rfl, ⟨hdg, rfl⟩ | ⟨hdg, rfl⟩⟩
          · show eb_P _ _ 75 [(2, .int (zhr t ln 40 s.1)), (0, .ref 112), (1, .int (nI dp))] (.int 1 :: []) _ _
            refine ep_if_eq (tgt := 84) dX11_thing_75 (by decide) (fun c12 => absurd c12 (by decide)) (fun c12 => ?_)
            refine ep_aload_n (i := 0) dX11_thing_78 rfl rfl ?_
            refine ep_iconst (v := 3) dX11_thing_79 (by decide) ?_
            refine ep_callV (M1 := mX11_number) (rest := []) dX11_thing_80 mlX11_176 mvX11_number rfl (hF.lt (by decide)) (hF.kc (by decide) rfl) (Nat.le_of_ble_eq_true rfl) rfl (q_X11_number (s := (s.1, s.2)) (d + 2) hP (by show s.1 < 900; omega)) (fun _ _ g => Or.inl (by rw [g.1])) ?_
            rintro _ _ ⟨rfl, rfl⟩
            show eb_P _ _ 83 [(2, .int (zhr t ln 40 s.1)), (0, .ref 112), (1, .int (nI dp))] (.int (zp_num (zhr t ln 40) 3 s).1 :: []) (n, sl, kd, zpw I ((zp_num (zhr t ln 40) 3 s).2.1, (zp_num (zhr t ln 40) 3 s).2.2), L, Rf) _
            refine ep_iret dX11_thing_83 rfl rfl ?_
            have e : zp (zhr t ln 40) as (f + 1) 5 dp 0 s = ((zp_num (zhr t ln 40) 3 s).1, ((zp_num (zhr t ln 40) 3 s).2.1, (zp_num (zhr t ln 40) 3 s).2.2)) := by
              rw [zp_t]
              rw [if_neg z1]
              rw [if_neg (fun g => g fi)]
              rw [if_neg (fun g => by first | exact absurd g.1 (by assumption) | exact absurd (nI_lt g.2 (by decide)) (Int32.not_lt.mpr (by assumption)))]
              rw [if_pos hdg]
            exact ⟨by rw [e], by rw [e]⟩
          · show eb_P _ _ 75 [(2, .int (zhr t ln 40 s.1)), (0, .ref 112), (1, .int (nI dp))] (.int 0 :: []) _ _
            refine ep_if_eq (tgt := 84) dX11_thing_75 (by decide) (fun c13 => ?_) (fun c13 => absurd (by decide) c13)
            refine ep_iload_n (i := 2) dX11_thing_84 rfl rfl ?_
            refine ep_callS (M1 := mX11_letterOf) (rest := []) dX11_thing_85 mlX11_179 msX11_letterOf rfl (Nat.le_of_ble_eq_true rfl) rfl (q_X11_letterOf (d + 5) (zhr t ln 40 s.1) (n, sl, kd, zpw I (s.1, s.2), L, Rf)) eb_rok ?_
            rintro _ _ ⟨rfl, rfl⟩
            show eb_P _ _ 88 [(2, .int (zhr t ln 40 s.1)), (0, .ref 112), (1, .int (nI dp))] (.int (z_li (zhr t ln 40 s.1)) :: []) _ _
            refine ep_iconst (v := (-1)) dX11_thing_88 (by decide) ?_
            refine ep_icmp_ne (tgt := 102) dX11_thing_89 (by decide) (fun c14 => ?_) (fun c14 => ?_)
            · skip
              have hli : z_li (zhr t ln 40 s.1) ≠ -1 := (by assumption)
              obtain ⟨q, hq, hqe⟩ := z_li7 hli
              refine ep_aload_n (i := 0) dX11_thing_102 rfl rfl ?_
              refine ep_dup dX11_thing_103 rfl ?_
              refine ep_getI dX11_thing_104 flX11_114 (hF.lt (by decide)) (hF.kc (by decide) rfl) ?_
              refine ep_topE (y := nI s.1) zpw_13 ?_
              refine ep_iconst (v := 1) dX11_thing_107 (by decide) ?_
              refine ep_iadd dX11_thing_108 ?_
              refine ep_topE (y := nI (s.1 + 1)) (nI_add _ _) ?_
              refine ep_pI dX11_thing_109 plX11_114 (hF.lt (by decide)) (hF.lx (by decide)) (hF.kc (by decide) rfl) rfl rfl ?_
              refine ep_eq (σ2 := (n, sl, kd, zpw I ((s.1 + 1), s.2), L, Rf)) rfl rfl rfl (by rw [zpw_s13]) ?_
              refine ep_aload_n (i := 0) dX11_thing_112 rfl rfl ?_
              refine ep_getI dX11_thing_113 flX11_182 (hF.lt (by decide)) (hF.kc (by decide) rfl) ?_
              refine ep_topE (y := I 112 19) (zpw_o (by decide) (by decide)) ?_
              refine ep_if_eq (tgt := 131) dX11_thing_116 (by decide) (fun c15 => ?_) (fun c15 => ?_)
              · skip
                refine ep_iconst (v := 0) dX11_thing_131 (by decide) ?_
                refine ep_iret dX11_thing_132 rfl rfl ?_
                have e : zp (zhr t ln 40) as (f + 1) 5 dp 0 s = (0, ((s.1 + 1), s.2)) := by
                  rw [zp_t]
                  rw [if_neg z1]
                  rw [if_neg (fun g => g fi)]
                  rw [if_neg (fun g => by first | exact absurd g.1 (by assumption) | exact absurd (nI_lt g.2 (by decide)) (Int32.not_lt.mpr (by assumption)))]
                  rw [if_neg hdg]
                  rw [if_neg hli]
                  rw [show as (z_li (zhr t ln 40 s.1)).toNatClampNeg = 0 from (hA.elim (fun g => absurd (g.1.symm.trans (by assumption)) (by decide)) (fun g => g.2 _))]
                exact ⟨by rw [e], by rw [e]⟩
              · skip
                refine ep_aload_n (i := 0) dX11_thing_119 rfl rfl ?_
                refine ep_getR dX11_thing_120 flX11_40 (hF.lt (by decide)) (hF.kc (by decide) rfl) (hF.pt 114 rfl) ?_
                refine ep_iload_n (i := 2) dX11_thing_123 rfl rfl ?_
                refine ep_callS (M1 := mX11_letterOf) (rest := [.ref 121]) dX11_thing_124 mlX11_179 msX11_letterOf rfl (Nat.le_of_ble_eq_true rfl) rfl (q_X11_letterOf (d + 5) (zhr t ln 40 s.1) (n, sl, kd, zpw I ((s.1 + 1), s.2), L, Rf)) eb_rok ?_
                rintro _ _ ⟨rfl, rfl⟩
                show eb_P _ _ 127 [(2, .int (zhr t ln 40 s.1)), (0, .ref 112), (1, .int (nI dp))] (.int (z_li (zhr t ln 40 s.1)) :: [.ref 121]) _ _
                refine ep_topE (y := nI q) hqe ?_
                refine ep_iaN (k := q) dX11_thing_127 (hF.lt (by decide)) (hF.ka (by decide) rfl) (by omega) (by decide) ?_
                refine ep_topE (y := I 121 q) (by rw [zpw_ne (by decide)]) ?_
                refine ep_goto (tgt := 132) dX11_thing_128 (by decide) ?_
                refine ep_iret dX11_thing_132 rfl rfl ?_
                have e : zp (zhr t ln 40) as (f + 1) 5 dp 0 s = (I 121 q, ((s.1 + 1), s.2)) := by
                  rw [zp_t]
                  rw [if_neg z1]
                  rw [if_neg (fun g => g fi)]
                  rw [if_neg (fun g => by first | exact absurd g.1 (by assumption) | exact absurd (nI_lt g.2 (by decide)) (Int32.not_lt.mpr (by assumption)))]
                  rw [if_neg hdg]
                  rw [if_neg hli]
                  rw [hqe, nI_clamp (by omega), show as q = I 121 q from (hA.elim (fun g => (g.2 q hq).symm) (fun g => absurd g.1 (by assumption)))]
                exact ⟨by rw [e], by rw [e]⟩
            · skip
              refine ep_aload_n (i := 0) dX11_thing_92 rfl rfl ?_
              refine ep_aload_n (i := 0) dX11_thing_93 rfl rfl ?_
              refine ep_getI dX11_thing_94 flX11_114 (hF.lt (by decide)) (hF.kc (by decide) rfl) ?_
              refine ep_topE (y := nI s.1) zpw_13 ?_
              refine ep_callV (M1 := mX11_fault) (rest := []) dX11_thing_97 mlX11_136 mvX11_fault rfl (hF.lt (by decide)) (hF.kc (by decide) rfl) (Nat.le_of_ble_eq_true rfl) rfl (q_X11_fault (s := (s.1, s.2)) (d + 4) hP (by show s.1 < 1000; omega) s.1) (eb_vok rfl) ?_
              rintro _ _ ⟨rfl, rfl⟩
              show eb_P _ _ 100 [(2, .int (zhr t ln 40 s.1)), (0, .ref 112), (1, .int (nI dp))] [] (n, sl, kd, zpw I ((zp_fault s.1 (s.1, s.2)).1, (zp_fault s.1 (s.1, s.2)).2), L, Rf) _
              refine ep_iconst (v := 0) dX11_thing_100 (by decide) ?_
              refine ep_iret dX11_thing_101 rfl rfl ?_
              have e : zp (zhr t ln 40) as (f + 1) 5 dp 0 s = (0, ((zp_fault s.1 (s.1, s.2)).1, (zp_fault s.1 (s.1, s.2)).2)) := by
                rw [zp_t]
                rw [if_neg z1]
                rw [if_neg (fun g => g fi)]
                rw [if_neg (fun g => by first | exact absurd g.1 (by assumption) | exact absurd (nI_lt g.2 (by decide)) (Int32.not_lt.mpr (by assumption)))]
                rw [if_neg hdg]
                rw [if_pos (Classical.not_not.mp (by assumption))]
              exact ⟨by rw [e], by rw [e]⟩
        · skip
          have hq : s.1 < 40 := zhr40 (t := t) (ln := ln) (fun e => absurd ((show zhr t ln 40 s.1 = 40 from Classical.not_not.mp (by assumption)).symm.trans e) (by decide))
          have hd4 : dp < 4 := Nat.lt_of_not_le (fun e => absurd (nI_le (a := 4) e (by omega)) (by assumption))
          refine ep_aload_n (i := 0) dX11_thing_41 rfl rfl ?_
          refine ep_dup dX11_thing_42 rfl ?_
          refine ep_getI dX11_thing_43 flX11_114 (hF.lt (by decide)) (hF.kc (by decide) rfl) ?_
          refine ep_topE (y := nI s.1) zpw_13 ?_
          refine ep_iconst (v := 1) dX11_thing_46 (by decide) ?_
          refine ep_iadd dX11_thing_47 ?_
          refine ep_topE (y := nI (s.1 + 1)) (nI_add _ _) ?_
          refine ep_pI dX11_thing_48 plX11_114 (hF.lt (by decide)) (hF.lx (by decide)) (hF.kc (by decide) rfl) rfl rfl ?_
          refine ep_eq (σ2 := (n, sl, kd, zpw I ((s.1 + 1), s.2), L, Rf)) rfl rfl rfl (by rw [zpw_s13]) ?_
          refine ep_aload_n (i := 0) dX11_thing_51 rfl rfl ?_
          refine ep_iload_n (i := 1) dX11_thing_52 rfl rfl ?_
          refine ep_iconst (v := 1) dX11_thing_53 (by decide) ?_
          refine ep_iadd dX11_thing_54 ?_
          refine ep_topE (y := nI (dp + 1)) (nI_add _ _) ?_
          refine ep_callV (M1 := mX11_held) (rest := []) dX11_thing_55 mlX11_169 mvX11_held rfl (hF.lt (by decide)) (hF.kc (by decide) rfl) (Nat.le_of_ble_eq_true rfl) rfl (ih.1 (d + 5) (dp + 1) ((s.1 + 1), s.2) (by omega) (by show (s.1 + 1) ≤ 40; omega) (by omega) (by show 5 * (41 - ((s.1 + 1))) + _ ≤ f; omega)) (fun _ _ g => Or.inl (by rw [g.1])) ?_
          rintro _ _ ⟨rfl, rfl⟩
          have hb16 := zp_bd (hr := (zhr t ln 40)) (as := as) (fun _ => zhr40) f 0 (dp + 1) 0 ((s.1 + 1), s.2) (by decide) (by show (s.1 + 1) ≤ 40; omega)
          rcases e16 : zp (zhr t ln 40) as f 0 (dp + 1) 0 ((s.1 + 1), s.2) with ⟨v16, p16, w16⟩
          rw [e16] at hb16; have hb16 : (s.1 + 1) ≤ p16 ∧ p16 ≤ 40 := hb16
          show eb_P _ _ 58 [(2, .int (zhr t ln 40 s.1)), (0, .ref 112), (1, .int (nI dp))] (.int v16 :: []) (n, sl, kd, zpw I (p16, w16), L, Rf) _
          refine ep_istore_n (l' := [(3, .int v16), (2, .int (zhr t ln 40 s.1)), (0, .ref 112), (1, .int (nI dp))]) dX11_thing_58 rfl (by decide) rfl ?_
          refine ep_aload_n (i := 0) dX11_thing_59 rfl rfl ?_
          refine ep_bipush (v := 41) dX11_thing_60 (by decide) ?_
          refine ep_callV (M1 := mX11_need) (rest := []) dX11_thing_62 mlX11_172 mvX11_need rfl (hF.lt (by decide)) (hF.kc (by decide) rfl) (Nat.le_of_ble_eq_true rfl) rfl (q_X11_need (s := (p16, w16)) (d + 3) hP (by show p16 < 1000; omega) 41) (eb_vok rfl) ?_
          rintro _ _ ⟨rfl, rfl⟩
          show eb_P _ _ 65 [(3, .int v16), (2, .int (zhr t ln 40 s.1)), (0, .ref 112), (1, .int (nI dp))] [] (n, sl, kd, zpw I ((zp_need (zhr t ln 40) 41 (p16, w16)).1, (zp_need (zhr t ln 40) 41 (p16, w16)).2), L, Rf) _
          refine ep_iload_n (i := 3) dX11_thing_65 rfl rfl ?_
          refine ep_iret dX11_thing_66 rfl rfl ?_
          have e : zp (zhr t ln 40) as (f + 1) 5 dp 0 s = (v16, ((zp_need (zhr t ln 40) 41 (p16, w16)).1, (zp_need (zhr t ln 40) 41 (p16, w16)).2)) := by
            rw [zp_t]
            rw [if_neg z1]
            rw [if_neg (fun g => g fi)]
            rw [if_pos ⟨Classical.not_not.mp (by assumption), hd4⟩]
            show (let a := zp (zhr t ln 40) as f 0 (dp + 1) 0 (s.1 + 1, s.2); _) = _
            rw [e16]
          exact ⟨by rw [e], by rw [e]⟩
    · show eb_P _ _ 20 [(0, .ref 112), (1, .int (nI dp))] (.int 0 :: []) _ _
      refine ep_if_ne (tgt := 25) dX11_thing_20 (by decide) (fun c17 => absurd c17 (by decide)) (fun c17 => ?_)
      refine ep_iconst (v := 0) dX11_thing_23 (by decide) ?_
      refine ep_iret dX11_thing_24 rfl rfl ?_
      have e : zp (zhr t ln 40) as (f + 1) 5 dp 0 s = (0, (s.1, s.2)) := by
        rw [zp_t]
        rw [if_neg z1]
        rw [if_pos fi]
      exact ⟨by rw [e], by rw [e]⟩
theorem zPall {n : Nat} {sl : Nat × Nat} {kd : Nat → Nat × Nat} {I : Nat → Nat → Int32} {L : Nat → Nat → Int64} {Rf : Nat → Nat → Option Nat} {rc m ln : Nat} {t as : Nat → Int32} (hP : zpc n kd I Rf rc m ln 40 t) (hA : (I 112 19 = 1 ∧ ∀ q, q < 7 → I 121 q = as q) ∨ (I 112 19 = 0 ∧ ∀ q, as q = 0)) : ∀ f, zPa n sl kd I L Rf ln t as f := by
  intro f
  induction f with
  | zero => exact ⟨fun D dp s h1 h2 h3 h4 => absurd h4 (by omega), fun D dp s h1 h2 h3 h4 => absurd h4 (by omega), fun D dp v s h1 h2 h3 h4 => absurd h4 (by omega), fun D dp s h1 h2 h3 h4 => absurd h4 (by omega), fun D dp v s h1 h2 h3 h4 => absurd h4 (by omega), fun D dp s h1 h2 h3 h4 => absurd h4 (by omega)⟩
  | succ f ih => exact ⟨zs_X11_held hP hA ih, zs_X11_sum hP hA ih, zl_X11_sum hP hA ih, zs_X11_product hP hA ih, zl_X11_product hP hA ih, zs_X11_thing hP hA ih⟩
theorem q_X11_held {n : Nat} {sl : Nat × Nat} {kd : Nat → Nat × Nat} {I : Nat → Nat → Int32} {L : Nat → Nat → Int64} {Rf : Nat → Nat → Option Nat} {rc m ln : Nat} {t as : Nat → Int32} (hP : zpc n kd I Rf rc m ln 40 t) (hA : (I 112 19 = 1 ∧ ∀ q, q < 7 → I 121 q = as q) ∨ (I 112 19 = 0 ∧ ∀ q, as q = 0)) (d : Nat) : eb_Q mX11_held (d + 305) [.ref 112, .int (nI 0)] (n, sl, kd, zpw I (0, -1), L, Rf) (eb_r (zp (zhr t ln 40) as 300 0 0 0 (0, -1)).1 (n, sl, kd, zpw I (zp (zhr t ln 40) as 300 0 0 0 (0, -1)).2, L, Rf)) := (zPall hP hA 300).1 (d + 305) 0 (0, -1) (by omega) (by decide) (by decide) (by decide)
