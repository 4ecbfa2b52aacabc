/-! the two readers of a rule: where one ends the other ends, and what one reads the other reads -/
/-- the class's reader, from a place on -/
def zrn (t : Nat → Int32) (m p : Nat) (R : z_R) : Nat ⊕ z_R := z_rdl t (m - p) p R
def zra (m : Nat) (x : Nat ⊕ z_R) : Int32 := match x with
  | .inl q => nI q
  | .inr R => if R.2.2.2.2.1 = true ∨ 0 < R.2.2.1 then nI m else -1
/-- the sign at a place, as the reference sees it -/
def zhx (hr t : Nat → Int32) (m : Nat) : Prop := (∀ p, p < m → p < 40 → hr p = t p ∧ ∃ x, x < 256 ∧ t p = nI x) ∧ ∀ p, ¬ (p < m ∧ p < 40) → hr p = -1
theorem zhx.lt {hr t : Nat → Int32} {m p : Nat} (h : zhx hr t m) (e : hr p ≠ -1) : p < m ∧ p < 40 := Classical.byContradiction (fun g => e (h.2 p g))
theorem zhx.ne {hr t : Nat → Int32} {m p : Nat} (h : zhx hr t m) {c : Int32} (e : hr p = c) (hc : c ≠ -1) : p < m ∧ p < 40 := h.lt (by rw [e]; exact hc)
theorem zrn_e {t : Nat → Int32} {m : Nat} {R : z_R} : zrn t m m R = .inr R := by unfold zrn; rw [Nat.sub_self]; rfl
theorem zrn_4 {t : Nat → Int32} {m p : Nat} {R : z_R} (hp : p < m) (h4 : 40 ≤ p) : zrn t m p R = .inl p := by
  unfold zrn; rw [show m - p = (m - (p + 1)) + 1 by omega, z_rdl, if_pos h4]
theorem zrn_n {hr t : Nat → Int32} {m p : Nat} {R : z_R} (hx : zhx hr t m) (hp : hr p ≠ -1) (e : z_tk (hr p) R = none) : zrn t m p R = .inl p := by
  obtain ⟨h1, h2⟩ := hx.lt hp
  rw [(hx.1 p h1 h2).1] at e
  unfold zrn; rw [show m - p = (m - (p + 1)) + 1 by omega, z_rdl, if_neg (by omega), e]
theorem zrn_s {hr t : Nat → Int32} {m p : Nat} {R R1 : z_R} (hx : zhx hr t m) (hp : hr p ≠ -1) (e : z_tk (hr p) R = some R1) : zrn t m p R = zrn t m (p + 1) R1 := by
  obtain ⟨h1, h2⟩ := hx.lt hp
  rw [(hx.1 p h1 h2).1] at e
  unfold zrn; rw [show m - p = (m - (p + 1)) + 1 by omega, z_rdl, if_neg (by omega), e]
/-- a program done on what lies there -/
def zex (as : Nat → Int32) (c st : List Int32) : List Int32 := c.foldl (fun st c => z_stp as c st) st
theorem zex_1 {as : Nat → Int32} {c : Int32} {st : List Int32} : zex as [c] st = z_stp as c st := rfl
theorem zex_app {as : Nat → Int32} {a b st : List Int32} : zex as (a ++ b) st = zex as b (zex as a st) := List.foldl_append
/-- the state stands for a value over what lay there: W waits, pg0 was put out -/
def zrp (as : Nat → Int32) (r : Int32) (W pg0 : List Int32) (v : Int32) (R : z_R) : Prop := ∃ u code, R.2.1 = u ++ W ∧ (∀ s ∈ u, s ≠ 40 ∧ r ≤ z_rk s) ∧ R.1 ++ u.map (fun s => -100 - s) = pg0 ++ code ∧ ∀ st, zex as code st = v :: st
theorem zrp.le {as : Nat → Int32} {r r2 : Int32} {W pg0 : List Int32} {v : Int32} {R : z_R} (h : zrp as r W pg0 v R) (e : r2 ≤ r) : zrp as r2 W pg0 v R := by
  obtain ⟨u, c, h1, h2, h3, h4⟩ := h
  exact ⟨u, c, h1, fun s hs => ⟨(h2 s hs).1, Int32.le_trans e (h2 s hs).2⟩, h3, h4⟩
theorem z_rl_u {r : Int32} : ∀ (u W pg : List Int32), (∀ s ∈ u, s ≠ 40 ∧ r ≤ z_rk s) → z_rl r (u ++ W) pg = z_rl r W (pg ++ u.map (fun s => -100 - s))
  | [], W, pg, _ => by simp
  | s :: u, W, pg, h => by
    have h1 := h s (List.mem_cons_self ..)
    rw [List.cons_append, z_rl, if_neg (fun g => g.elim h1.1 (fun g => absurd h1.2 (Int32.not_le.mpr g))), z_rl_u u W _ (fun s hs => h s (List.mem_cons_of_mem _ hs))]
    simp [List.append_assoc]
def zlw (r : Int32) (W : List Int32) : Prop := W = [] ∨ ∃ s W1, W = s :: W1 ∧ (s = 40 ∨ z_rk s < r)
theorem zlw.rl {r : Int32} {W pg : List Int32} (h : zlw r W) : z_rl r W pg = (W, pg) := by
  rcases h with rfl | ⟨s, W1, rfl, h⟩
  · rfl
  · rw [z_rl, if_pos h]
/-- where a joint may stand; where a thing must -/
def zjs (dp : Nat) (cm : Nat → Bool) (hr : Nat → Int32) (p : Nat) (R : z_R) : Prop := R.2.2.2.2.1 = false ∧ R.2.2.1 = dp ∧ (∀ q, q ≤ dp → R.2.2.2.2.2.1 q = cm q) ∧ (48 ≤ hr p → hr p ≤ 57 → R.2.2.2.1 = 0 ∨ R.2.2.2.1 = 3)
def zts (dp : Nat) (cm : Nat → Bool) (R : z_R) : Prop := R.2.2.2.2.1 = true ∧ R.2.2.1 = dp ∧ ∀ q, q ≤ dp → R.2.2.2.2.2.1 q = cm q
/-- what comes of reading from a place on: both find the same fault, or both go on from the same place -/
def zoc (t : Nat → Int32) (m p : Nat) (R : z_R) (o : Int32 × zps) (G : Nat → Int32 → z_R → Prop) : Prop :=
  (∃ q, q ≤ 40 ∧ o.2.2 = nI q ∧ zra m (zrn t m p R) = nI q) ∨ (o.2.2 = -1 ∧ p ≤ o.2.1 ∧ o.2.1 ≤ 40 ∧ o.2.1 ≤ m ∧ ∃ R', zrn t m p R = zrn t m o.2.1 R' ∧ G o.2.1 o.1 R')
theorem zoc.pre {t : Nat → Int32} {m p p' : Nat} {R R' : z_R} {o : Int32 × zps} {G : Nat → Int32 → z_R → Prop} (h : zoc t m p' R' o G) (hp : p ≤ p') (e : zrn t m p R = zrn t m p' R') : zoc t m p R o G := by
  rcases h with ⟨q, hq, e1, e2⟩ | ⟨e1, e2, e3, e3m, R2, e4, e5⟩
  · exact Or.inl ⟨q, hq, e1, by rw [e]; exact e2⟩
  · exact Or.inr ⟨e1, by omega, e3, e3m, R2, e.trans e4, e5⟩
theorem zoc.map {t : Nat → Int32} {m p : Nat} {R : z_R} {o : Int32 × zps} {G G2 : Nat → Int32 → z_R → Prop} (h : zoc t m p R o G) (φ : Int32 → Int32) (hg : ∀ p' v R', G p' v R' → G2 p' (φ v) R') : zoc t m p R (φ o.1, o.2) G2 := by
  rcases h with h | ⟨e1, e2, e3, e3m, R2, e4, e5⟩
  · exact Or.inl h
  · exact Or.inr ⟨e1, e2, e3, e3m, R2, e4, hg _ _ _ e5⟩
theorem zoc.bd {t : Nat → Int32} {m p : Nat} {R : z_R} {o : Int32 × zps} {G G2 : Nat → Int32 → z_R → Prop} (F : Int32 → zps → Int32 × zps) (h : zoc t m p R o G) (hw : ∀ v s, s.2 ≠ -1 → (F v s).2.2 = s.2) (hk : ∀ p' v R', p ≤ p' → p' ≤ 40 → p' ≤ m → G p' v R' → zoc t m p' R' (F v (p', -1)) G2) : zoc t m p R (F o.1 o.2) G2 := by
  rcases h with ⟨q, hq, e1, e2⟩ | ⟨e1, e2, e3, e3m, R', e4, e5⟩
  · exact Or.inl ⟨q, hq, by rw [hw _ _ (by rw [e1]; exact nI_nm1 q (by omega)), e1], e2⟩
  · have ho : o.2 = (o.2.1, -1) := by rw [← e1]
    have h2 := hk _ _ _ e2 e3 e3m e5
    rw [← ho] at h2
    exact h2.pre e2 e4
theorem zp_is_w {hr : Nat → Int32} {c : Int32} {s : zps} (h : s.2 ≠ -1) : ¬ zp_is hr c s := fun g => h g.1
theorem zp_wr {hr as : Nat → Int32} : ∀ (f tag dp : Nat) (v : Int32) (s : zps), tag ≤ 5 → s.2 ≠ -1 → (zp hr as f tag dp v s).2 = s := by
  intro f
  induction f with
  | zero => intro tag dp v s _ _; rfl
  | succ f ih =>
    intro tag dp v s ht h
    rcases (by omega : tag = 0 ∨ tag = 1 ∨ tag = 2 ∨ tag = 3 ∨ tag = 4 ∨ tag = 5) with rfl | rfl | rfl | rfl | rfl | rfl
    · rw [zp_h]; simp only
      rw [if_neg, if_neg, if_neg]
      · exact ih 1 dp 0 s (by omega) h
      all_goals (rw [ih 1 dp 0 s (by omega) h]; exact zp_is_w h)
    · rw [zp_s, ih 3 dp 0 s (by omega) h]; exact ih 2 dp _ s (by omega) h
    · rw [zp_sl, if_neg (zp_is_w h), if_neg (zp_is_w h)]
    · rw [zp_p, ih 5 dp 0 s (by omega) h]; exact ih 4 dp _ s (by omega) h
    · rw [zp_pl, if_neg (zp_is_w h), if_neg (zp_is_w h)]
    · rw [zp_t, if_neg (zp_is_w h), if_pos h]
theorem z_tk_j {s : Int32} {R : z_R} (h : R.2.2.2.2.1 = false) : z_tk s R = z_tj s R := by unfold z_tk; rw [h]; rfl
theorem z_tk_t {s : Int32} {R : z_R} (h : R.2.2.2.2.1 = true) : z_tk s R = z_tt s R := by unfold z_tk; rw [h]; rfl
/-- a joint that is taken -/
theorem zjt {as hr : Nat → Int32} {dp p : Nat} {cm : Nat → Bool} {R : z_R} {W pg0 : List Int32} {v s : Int32} (hj : zjs dp cm hr p R) (hs : ¬ (48 ≤ s ∧ s ≤ 57)) (h41 : s ≠ 41) (h0 : z_rk s ≠ 0) (h1 : z_rk s = 1 → cm dp = false) (hW : zlw (z_rk s) W) (hr_ : zrp as (z_rk s) W pg0 v R) : ∃ R1 code, z_tk s R = some R1 ∧ zts dp (fun q => if q = dp then cm dp || decide (z_rk s = 1) else cm q) R1 ∧ R1.2.1 = s :: W ∧ R1.1 = pg0 ++ code ∧ ∀ st, zex as code st = v :: st := by
  obtain ⟨u, code, e1, e2, e3, e4⟩ := hr_
  obtain ⟨j1, j2, j3, j4⟩ := hj
  have hl : z_rl (z_rk s) R.2.1 R.1 = (W, pg0 ++ code) := by rw [e1, z_rl_u u W _ e2, e3, hW.rl]
  refine ⟨((z_rel (z_rk s) R).1, s :: (z_rel (z_rk s) R).2.1, R.2.2.1, 0, true, (z_cmp s R).2.2.2.2.2.1, R.2.2.2.2.2.2), code, by rw [z_tk_j j1, z_tj, if_neg hs, if_neg h41, if_neg (fun g => g.elim h0 (fun g => by have := h1 g.1; rw [← j3 dp (Nat.le_refl _), ← j2] at this; rw [this] at g; exact absurd g.2 (by decide)))], ⟨rfl, j2, fun q hq => ?_⟩, ?_, ?_, e4⟩
  · show (z_cmp s R).2.2.2.2.2.1 q = _
    simp only [z_cmp]
    rw [j2]
    by_cases e : q = dp
    · rw [if_pos e, if_pos e, j3 dp (Nat.le_refl _)]
    · rw [if_neg e, if_neg e, j3 q hq]
  · show s :: (z_rel (z_rk s) R).2.1 = _
    unfold z_rel; rw [hl]
  · show (z_rel (z_rk s) R).1 = _
    unfold z_rel; rw [hl]
theorem zts.cm {dp : Nat} {cm cm2 : Nat → Bool} {R : z_R} (h : zts dp cm R) (e : ∀ q, q ≤ dp → cm q = cm2 q) : zts dp cm2 R := ⟨h.1, h.2.1, fun q hq => (h.2.2 q hq).trans (e q hq)⟩
/-- an operator behind what it joins -/
theorem zrp_op {as : Nat → Int32} {r r2 s : Int32} {W pg0 code : List Int32} {v v2 : Int32} {R : z_R} (hc : ∀ st, zex as code st = v :: st) (h : zrp as r (s :: W) (pg0 ++ code) v2 R) (hr : r2 ≤ r) (hr2 : r2 ≤ z_rk s) (h40 : s ≠ 40) (hs : ∀ st, z_stp as (-100 - s) (v2 :: v :: st) = z_jn s v v2 :: st) : zrp as r2 W pg0 (z_jn s v v2) R := by
  obtain ⟨u, c2, e1, e2, e3, e4⟩ := h
  refine ⟨u ++ [s], code ++ (c2 ++ [-100 - s]), by rw [e1]; simp, fun q hq => ?_, ?_, fun st => ?_⟩
  · rcases List.mem_append.mp hq with hq | hq
    · exact ⟨(e2 q hq).1, Int32.le_trans hr (e2 q hq).2⟩
    · rw [List.mem_singleton.mp hq]; exact ⟨h40, hr2⟩
  · rw [List.map_append, ← List.append_assoc, e3]; simp
  · rw [zex_app, hc, zex_app, e4, zex_1]; exact hs st
theorem z_stp_op {as : Nat → Int32} {s : Int32} (hs : s = 60 ∨ s = 61 ∨ s = 62 ∨ s = 43 ∨ s = 45 ∨ s = 42 ∨ s = 47) (x y : Int32) (st : List Int32) : z_stp as (-100 - s) (y :: x :: st) = z_jn s x y :: st := by
  have e : ∀ s : Int32, -100 - (-100 - s) = s := fun s => by rw [← Int32.toBitVec_inj]; simp; bv_omega
  rcases hs with rfl | rfl | rfl | rfl | rfl | rfl | rfl
  all_goals (rw [z_stp_2 (by decide) rfl (by decide) (by decide), e])
