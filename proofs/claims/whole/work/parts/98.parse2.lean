/-! the two readers of a rule, second half -/
def zKT (t : Nat → Int32) (m : Nat) (hr as : Nat → Int32) (f : Nat) : Prop := ∀ dp p (R : z_R) cm, zts dp cm R → dp ≤ 4 → p ≤ 40 → p ≤ m → 6 * (41 - p) + 1 ≤ f → zoc t m p R (zp hr as f 5 dp 0 (p, -1)) (fun p' v R' => zjs dp cm hr p' R' ∧ zrp as 4 R.2.1 R.1 v R')
def zK4 (t : Nat → Int32) (m : Nat) (hr as : Nat → Int32) (f : Nat) : Prop := ∀ dp p (R : z_R) cm W pg0 v, zjs dp cm hr p R → zlw 3 W → zrp as 3 W pg0 v R → dp ≤ 4 → p ≤ 40 → p ≤ m → 6 * (41 - p) + 1 ≤ f → zoc t m p R (zp hr as f 4 dp v (p, -1)) (fun p' v R' => zjs dp cm hr p' R' ∧ zrp as 3 W pg0 v R' ∧ hr p' ≠ 42 ∧ hr p' ≠ 47)
def zK3 (t : Nat → Int32) (m : Nat) (hr as : Nat → Int32) (f : Nat) : Prop := ∀ dp p (R : z_R) cm, zts dp cm R → zlw 3 R.2.1 → dp ≤ 4 → p ≤ 40 → p ≤ m → 6 * (41 - p) + 2 ≤ f → zoc t m p R (zp hr as f 3 dp 0 (p, -1)) (fun p' v R' => zjs dp cm hr p' R' ∧ zrp as 3 R.2.1 R.1 v R' ∧ hr p' ≠ 42 ∧ hr p' ≠ 47)
def zK2 (t : Nat → Int32) (m : Nat) (hr as : Nat → Int32) (f : Nat) : Prop := ∀ dp p (R : z_R) cm W pg0 v, zjs dp cm hr p R → zlw 2 W → zrp as 2 W pg0 v R → hr p ≠ 42 → hr p ≠ 47 → dp ≤ 4 → p ≤ 40 → p ≤ m → 6 * (41 - p) + 1 ≤ f → zoc t m p R (zp hr as f 2 dp v (p, -1)) (fun p' v R' => zjs dp cm hr p' R' ∧ zrp as 2 W pg0 v R' ∧ hr p' ≠ 42 ∧ hr p' ≠ 47 ∧ hr p' ≠ 43 ∧ hr p' ≠ 45)
def zK1 (t : Nat → Int32) (m : Nat) (hr as : Nat → Int32) (f : Nat) : Prop := ∀ dp p (R : z_R) cm, zts dp cm R → zlw 2 R.2.1 → dp ≤ 4 → p ≤ 40 → p ≤ m → 6 * (41 - p) + 3 ≤ f → zoc t m p R (zp hr as f 1 dp 0 (p, -1)) (fun p' v R' => zjs dp cm hr p' R' ∧ zrp as 2 R.2.1 R.1 v R' ∧ hr p' ≠ 42 ∧ hr p' ≠ 47 ∧ hr p' ≠ 43 ∧ hr p' ≠ 45)
/-- no joint can stand here but a ) -/
def zbk (hr : Nat → Int32) (p : Nat) (R : z_R) : Prop := hr p ≠ -1 → hr p ≠ 41 → z_tk (hr p) R = none
def zK0 (t : Nat → Int32) (m : Nat) (hr as : Nat → Int32) (f : Nat) : Prop := ∀ dp p (R : z_R) cm, zts dp cm R → cm dp = false → zlw 1 R.2.1 → dp ≤ 4 → p ≤ 40 → p ≤ m → 6 * (41 - p) + 4 ≤ f → zoc t m p R (zp hr as f 0 dp 0 (p, -1)) (fun p' v R' => (R'.2.2.2.2.1 = false ∧ R'.2.2.1 = dp ∧ ∀ q, q < dp → R'.2.2.2.2.2.1 q = cm q) ∧ zrp as 1 R.2.1 R.1 v R' ∧ zbk hr p' R')
section PAR2
variable {t hr as : Nat → Int32} {m f : Nat}
theorem zcm_id {dp : Nat} {cm : Nat → Bool} {s : Int32} (h : z_rk s ≠ 1) : ∀ q, q ≤ dp → (if q = dp then cm dp || decide (z_rk s = 1) else cm q) = cm q := fun q _ => by
  by_cases e : q = dp
  · rw [if_pos e, decide_eq_false h, Bool.or_false, e]
  · rw [if_neg e]
theorem zk4 (hx : zhx hr t m) (hT : zKT t m hr as f) (h4 : zK4 t m hr as f) : zK4 t m hr as (f + 1) := by
  intro dp p R cm W pg0 v hj hW hR hdp hp hm hf
  have step : ∀ s : Int32, (s = 42 ∨ s = 47) → hr p = s → zoc t m p R (zp hr as f 4 dp (z_jn s v (zp hr as f 5 dp 0 (p + 1, -1)).1) (zp hr as f 5 dp 0 (p + 1, -1)).2) (fun p' v R' => zjs dp cm hr p' R' ∧ zrp as 3 W pg0 v R' ∧ hr p' ≠ 42 ∧ hr p' ≠ 47) := by
    intro s hs e
    have h3 : z_rk s = 3 := by rcases hs with rfl | rfl <;> decide
    have hne : s ≠ -1 := by rcases hs with rfl | rfl <;> decide
    obtain ⟨hpm, hp4⟩ := hx.ne e hne
    obtain ⟨R1, code, g1, g2, g3, g4, g5⟩ := zjt (s := s) hj (by rcases hs with rfl | rfl <;> decide) (by rcases hs with rfl | rfl <;> decide) (by rw [h3]; decide) (fun g => absurd g (by rw [h3]; decide)) (by rw [h3]; exact hW) (by rw [h3]; exact hR)
    have g2 := g2.cm (zcm_id (by rw [h3]; decide))
    rw [← e] at g1
    refine zoc.pre (zoc.bd (fun x s2 => zp hr as f 4 dp (z_jn s v x) s2) (hT dp (p + 1) R1 cm g2 hdp (by omega) (by omega) (by omega)) (fun x s2 h => by rw [zp_wr f 4 dp _ s2 (by omega) h]) ?_) (Nat.le_succ p) (zrn_s hx (by rw [e]; exact hne) g1)
    rintro p' x R' k1 k2 k2m ⟨k3, k4⟩
    rw [g3, g4] at k4
    exact h4 dp p' R' cm W pg0 _ k3 hW (zrp_op g5 k4 (by decide) (by rw [h3]; decide) (by rcases hs with rfl | rfl <;> decide) (fun st => z_stp_op (by rcases hs with rfl | rfl <;> simp) _ _ st)) hdp k2 k2m (by omega)
  rw [zp_pl]
  by_cases e1 : hr p = 42
  · rw [if_pos ⟨rfl, e1⟩]
    have := step 42 (Or.inl rfl) e1
    exact this
  rw [if_neg (fun g => e1 g.2)]
  by_cases e2 : hr p = 47
  · rw [if_pos ⟨rfl, e2⟩]
    have := step 47 (Or.inr rfl) e2
    exact this
  rw [if_neg (fun g => e2 g.2)]
  exact Or.inr ⟨rfl, Nat.le_refl _, hp, hm, R, rfl, hj, hR, e1, e2⟩
theorem zk3 (hT : zKT t m hr as f) (h4 : zK4 t m hr as f) : zK3 t m hr as (f + 1) := by
  intro dp p R cm hR hW hdp hp hm hf
  rw [zp_p]
  refine zoc.bd (fun x s2 => zp hr as f 4 dp x s2) (hT dp p R cm hR hdp hp hm (by omega)) (fun x s2 h => by rw [zp_wr f 4 dp _ s2 (by omega) h]) ?_
  rintro p' x R' k1 k2 k2m ⟨k3, k4⟩
  exact h4 dp p' R' cm _ _ x k3 hW (k4.le (by decide)) hdp k2 k2m (by omega)
theorem zk2 (hx : zhx hr t m) (h3 : zK3 t m hr as f) (h2 : zK2 t m hr as f) : zK2 t m hr as (f + 1) := by
  intro dp p R cm W pg0 v hj hW hR n42 n47 hdp hp hm hf
  have step : ∀ s : Int32, (s = 43 ∨ s = 45) → hr p = s → zoc t m p R (zp hr as f 2 dp (z_jn s v (zp hr as f 3 dp 0 (p + 1, -1)).1) (zp hr as f 3 dp 0 (p + 1, -1)).2) (fun p' v R' => zjs dp cm hr p' R' ∧ zrp as 2 W pg0 v R' ∧ hr p' ≠ 42 ∧ hr p' ≠ 47 ∧ hr p' ≠ 43 ∧ hr p' ≠ 45) := by
    intro s hs e
    have hk : z_rk s = 2 := by rcases hs with rfl | rfl <;> decide
    have hne : s ≠ -1 := by rcases hs with rfl | rfl <;> decide
    obtain ⟨hpm, hp4⟩ := hx.ne e hne
    obtain ⟨R1, code, g1, g2, g3, g4, g5⟩ := zjt (s := s) hj (by rcases hs with rfl | rfl <;> decide) (by rcases hs with rfl | rfl <;> decide) (by rw [hk]; decide) (fun g => absurd g (by rw [hk]; decide)) (by rw [hk]; exact hW) (by rw [hk]; exact hR)
    have g2 := g2.cm (zcm_id (by rw [hk]; decide))
    rw [← e] at g1
    refine zoc.pre (zoc.bd (fun x s2 => zp hr as f 2 dp (z_jn s v x) s2) (h3 dp (p + 1) R1 cm g2 (by rw [g3]; exact Or.inr ⟨s, W, rfl, Or.inr (by rw [hk]; decide)⟩) hdp (by omega) (by omega) (by omega)) (fun x s2 h => by rw [zp_wr f 2 dp _ s2 (by omega) h]) ?_) (Nat.le_succ p) (zrn_s hx (by rw [e]; exact hne) g1)
    rintro p' x R' k1 k2 k2m ⟨k3, k4, k5, k6⟩
    rw [g3, g4] at k4
    exact h2 dp p' R' cm W pg0 _ k3 hW (zrp_op g5 k4 (by decide) (by rw [hk]; decide) (by rcases hs with rfl | rfl <;> decide) (fun st => z_stp_op (by rcases hs with rfl | rfl <;> simp) _ _ st)) k5 k6 hdp k2 k2m (by omega)
  rw [zp_sl]
  by_cases e1 : hr p = 43
  · rw [if_pos ⟨rfl, e1⟩]
    have := step 43 (Or.inl rfl) e1
    exact this
  rw [if_neg (fun g => e1 g.2)]
  by_cases e2 : hr p = 45
  · rw [if_pos ⟨rfl, e2⟩]
    have := step 45 (Or.inr rfl) e2
    exact this
  rw [if_neg (fun g => e2 g.2)]
  exact Or.inr ⟨rfl, Nat.le_refl _, hp, hm, R, rfl, hj, hR, n42, n47, e1, e2⟩
theorem zk1 (h3 : zK3 t m hr as f) (h2 : zK2 t m hr as f) : zK1 t m hr as (f + 1) := by
  intro dp p R cm hR hW hdp hp hm hf
  rw [zp_s]
  refine zoc.bd (fun x s2 => zp hr as f 2 dp x s2) (h3 dp p R cm hR (by
    rcases hW with h | ⟨s, W1, e, h⟩
    · exact Or.inl h
    · exact Or.inr ⟨s, W1, e, h.imp id (fun h => Int32.lt_trans h (by decide))⟩) hdp hp hm (by omega)) (fun x s2 h => by rw [zp_wr f 2 dp _ s2 (by omega) h]) ?_
  rintro p' x R' k1 k2 k2m ⟨k3, k4, k5, k6⟩
  exact h2 dp p' R' cm _ _ x k3 hW (k4.le (by decide)) k5 k6 hdp k2 k2m (by omega)
/-- a sign that no joint is -/
theorem zbk_of (hx : zhx hr t m) {dp p : Nat} {cm : Nat → Bool} {R : z_R} (hj : zjs dp cm hr p R) (n42 : hr p ≠ 42) (n47 : hr p ≠ 47) (n43 : hr p ≠ 43) (n45 : hr p ≠ 45) (hc : cm dp = true ∨ (hr p ≠ 60 ∧ hr p ≠ 62 ∧ hr p ≠ 61)) : zbk hr p R := by
  intro h1 h41
  obtain ⟨j1, j2, j3, j4⟩ := hj
  obtain ⟨hpm, hp4⟩ := hx.lt h1
  have n256 : hr p ≠ 256 := by
    obtain ⟨e, x, hx2, e2⟩ := hx.1 p hpm hp4
    rw [e, e2]
    exact fun g => absurd (z_nIinj (g.trans (show (256 : Int32) = nI 256 by decide)) (by omega) (by decide)) (by omega)
  rw [z_tk_j j1, z_tj]
  by_cases hd : 48 ≤ hr p ∧ hr p ≤ 57
  · rw [if_pos hd]
    unfold z_ln3
    rw [if_pos ((j4 hd.1 hd.2).imp id Or.inl)]
  rw [if_neg hd, if_neg h41]
  by_cases hk : hr p = 60 ∨ hr p = 61 ∨ hr p = 62
  · have hcm : R.2.2.2.2.2.1 R.2.2.1 = true := by
      rw [j2, j3 dp (Nat.le_refl _)]
      exact hc.elim id (fun g => by rcases hk with k | k | k <;> simp [k] at g)
    rw [if_pos (Or.inr ⟨by unfold z_rk; rw [if_pos hk], hcm⟩)]
  · have h0 : z_rk (hr p) = 0 := by
      unfold z_rk
      rw [if_neg hk, if_neg (by intro g; exact g.elim n43 n45), if_neg (by intro g; exact g.elim n42 n47), if_neg n256]
    rw [if_pos (Or.inl h0)]
theorem zk0 (hx : zhx hr t m) (h1 : zK1 t m hr as f) : zK0 t m hr as (f + 1) := by
  intro dp p R cm hR hcm hW hdp hp hm hf
  rw [zp_h]
  refine zoc.bd (fun x s2 => if zp_is hr 60 s2 then (if x < (zp hr as f 1 dp 0 (s2.1 + 1, s2.2)).1 then 1 else 0, (zp hr as f 1 dp 0 (s2.1 + 1, s2.2)).2) else if zp_is hr 62 s2 then (if (zp hr as f 1 dp 0 (s2.1 + 1, s2.2)).1 < x then 1 else 0, (zp hr as f 1 dp 0 (s2.1 + 1, s2.2)).2) else if zp_is hr 61 s2 then (if x = (zp hr as f 1 dp 0 (s2.1 + 1, s2.2)).1 then 1 else 0, (zp hr as f 1 dp 0 (s2.1 + 1, s2.2)).2) else (x, s2)) (h1 dp p R cm hR (by
    rcases hW with h | ⟨s, W1, e, h⟩
    · exact Or.inl h
    · exact Or.inr ⟨s, W1, e, h.imp id (fun h => Int32.lt_trans h (by decide))⟩) hdp hp hm (by omega)) (fun x s2 h => by rw [if_neg (zp_is_w h), if_neg (zp_is_w h), if_neg (zp_is_w h)]) ?_
  rintro p' x R' k1 k2 k2m ⟨k3, k4, n42, n47, n43, n45⟩
  have step : ∀ s : Int32, (s = 60 ∨ s = 61 ∨ s = 62) → hr p' = s → zoc t m p' R' (z_jn s x (zp hr as f 1 dp 0 (p' + 1, -1)).1, (zp hr as f 1 dp 0 (p' + 1, -1)).2) (fun p' v R' => (R'.2.2.2.2.1 = false ∧ R'.2.2.1 = dp ∧ ∀ q, q < dp → R'.2.2.2.2.2.1 q = cm q) ∧ zrp as 1 R.2.1 R.1 v R' ∧ zbk hr p' R') := by
    intro s hs e
    have hk : z_rk s = 1 := by rcases hs with rfl | rfl | rfl <;> decide
    have hne : s ≠ -1 := by rcases hs with rfl | rfl | rfl <;> decide
    obtain ⟨hpm, hp4⟩ := hx.ne e hne
    obtain ⟨R1, code, g1, g2, g3, g4, g5⟩ := zjt (s := s) k3 (by rcases hs with rfl | rfl | rfl <;> decide) (by rcases hs with rfl | rfl | rfl <;> decide) (by rw [hk]; decide) (fun _ => hcm) (by rw [hk]; exact hW) (by rw [hk]; exact k4.le (by decide))
    rw [← e] at g1
    refine zoc.pre (zoc.map (h1 dp (p' + 1) R1 _ g2 (by rw [g3]; exact Or.inr ⟨s, R.2.1, rfl, Or.inr (by rw [hk]; decide)⟩) hdp (by omega) (by omega) (by omega)) (fun y => z_jn s x y) ?_) (Nat.le_succ p') (zrn_s hx (by rw [e]; exact hne) g1)
    rintro p2 y R2 ⟨q3, q4, q42, q47, q43, q45⟩
    rw [g3, g4] at q4
    refine ⟨⟨q3.1, q3.2.1, fun q hq => ?_⟩, zrp_op g5 q4 (by decide) (by rw [hk]; decide) (by rcases hs with rfl | rfl | rfl <;> decide) (fun st => z_stp_op (by rcases hs with rfl | rfl | rfl <;> simp) _ _ st), zbk_of hx q3 q42 q47 q43 q45 (Or.inl ?_)⟩
    · rw [q3.2.2.1 q (by omega)]; exact if_neg (by omega)
    · show (if dp = dp then cm dp || decide (z_rk s = 1) else cm dp) = true
      rw [if_pos rfl, hk]; simp
  by_cases e1 : hr p' = 60
  · simp only; rw [if_pos ⟨rfl, e1⟩]; exact step 60 (Or.inl rfl) e1
  simp only; rw [if_neg (fun g => e1 g.2)]
  by_cases e2 : hr p' = 62
  · rw [if_pos ⟨rfl, e2⟩]; exact step 62 (Or.inr (Or.inr rfl)) e2
  rw [if_neg (fun g => e2 g.2)]
  by_cases e3 : hr p' = 61
  · rw [if_pos ⟨rfl, e3⟩]; exact step 61 (Or.inr (Or.inl rfl)) e3
  rw [if_neg (fun g => e3 g.2)]
  exact Or.inr ⟨rfl, Nat.le_refl _, k2, k2m, R', rfl, ⟨k3.1, k3.2.1, fun q hq => k3.2.2.1 q (by omega)⟩, k4.le (by decide), zbk_of hx k3 n42 n47 n43 n45 (Or.inr ⟨e1, e2, e3⟩)⟩
/-- the end of the signs, or of those that count -/
theorem zra_end (hx : zhx hr t m) {p : Nat} {R : z_R} (hp : p ≤ m) (e : hr p = -1) (h : R.2.2.2.2.1 = true ∨ 0 < R.2.2.1) : zra m (zrn t m p R) = nI p := by
  by_cases hm : p = m
  · subst hm; rw [zrn_e]; unfold zra; simp only; rw [if_pos h]
  · rw [zrn_4 (by omega) (by
      refine Nat.le_of_not_lt (fun g => ?_)
      obtain ⟨e1, x, hx1, e2⟩ := hx.1 p (by omega) g
      exact nI_nm1 x (by omega) (by rw [← e2, ← e1, e]))]
    rfl
/-- more signs of a number -/
theorem zknl (hx : zhx hr t m) {dp : Nat} {cm : Nat → Bool} {W pg0 : List Int32} : ∀ (k x p : Nat) (R : z_R), k ≤ 2 → R.2.2.2.2.1 = false → R.2.2.1 = dp → (∀ q, q ≤ dp → R.2.2.2.2.2.1 q = cm q) → R.2.2.2.1 + k = 3 → x < 10 ^ (3 - k) → R.1 = pg0 ++ [nI x] → R.2.1 = W → p ≤ 40 → p ≤ m → zoc t m p R (zp_nl hr k (nI x) (p, -1)) (fun p' v R' => zjs dp cm hr p' R' ∧ zrp as 4 W pg0 v R') := by
  have fin : ∀ (x : Nat) (R : z_R), x < 1000 → R.1 = pg0 ++ [nI x] → R.2.1 = W → zrp as 4 W pg0 (nI x) R := fun x R hx1 h1 h2 => ⟨[], [nI x], by rw [h2]; rfl, fun s hs => absurd hs (List.not_mem_nil), by rw [h1]; simp, fun st => z_stp_n (nI_pos' (by omega))⟩
  intro k
  induction k with
  | zero =>
    intro x p R _ h1 h2 h3 h4 h5 h6 h7 hp hm
    exact Or.inr ⟨rfl, Nat.le_refl _, hp, hm, R, rfl, ⟨h1, h2, h3, fun _ _ => Or.inr (by omega)⟩, fin x R (by simpa using h5) h6 h7⟩
  | succ k ih =>
    intro x p R hk h1 h2 h3 h4 h5 h6 h7 hp hm
    have hx1 : x < 100 := Nat.lt_of_lt_of_le h5 (by
      have : 10 ^ (3 - (k + 1)) ≤ 10 ^ 2 := Nat.pow_le_pow_right (by decide) (by omega)
      simpa using this)
    rw [zp_nl]
    by_cases hd : 48 ≤ hr p ∧ hr p ≤ 57
    · have hne : hr p ≠ -1 := fun g => by rw [g] at hd; exact absurd hd.1 (by decide)
      obtain ⟨hpm, hp4⟩ := hx.lt hne
      obtain ⟨e1, c, hc, e2⟩ := hx.1 p hpm hp4
      have hc1 : 48 ≤ c ∧ c ≤ 57 := by
        rw [e1, e2] at hd
        rw [Int32.le_iff_toInt_le, Int32.le_iff_toInt_le, nI_toInt (by omega)] at hd
        have a1 : (48 : Int32).toInt = 48 := rfl
        have a2 : (57 : Int32).toInt = 57 := rfl
        omega
      have hv : hr p - 48 = nI (c - 48) := by
        rw [e1, e2]
        have : nI c = nI (c - 48) + 48 := by rw [show (48 : Int32) = nI 48 by decide, nI_add]; congr 1; omega
        rw [this, Int32.add_sub_cancel]
      rw [if_pos ⟨rfl, hd.1, hd.2⟩, zp_one_y (by exact ⟨hd.1, hd.2⟩)]
      simp only
      have hval : 10 * nI x + (hr p - 48) = nI (10 * x + (c - 48)) := by rw [hv, show (10 : Int32) = nI 10 by decide, nI_mul, nI_add]
      rw [hval]
      refine zoc.pre (ih (10 * x + (c - 48)) (p + 1) (pg0 ++ [nI (10 * x + (c - 48))], R.2.1, R.2.2.1, R.2.2.2.1 + 1, R.2.2.2.2) (by omega) h1 h2 h3 (by show R.2.2.2.1 + 1 + k = 3; omega) ?_ rfl h7 (by omega) (by omega)) (Nat.le_succ p) (zrn_s hx hne ?_)
      · have : 10 ^ (3 - k) = 10 * 10 ^ (3 - (k + 1)) := by rw [show 3 - k = (3 - (k + 1)) + 1 by omega, Nat.pow_succ]; omega
        omega
      · rw [z_tk_j h1, z_tj, if_pos hd]
        unfold z_ln3
        rw [if_neg (by
          rintro (g | g | g)
          · omega
          · omega
          · rw [h6] at g; simp at g)]
        rw [h6, hv]
        have : (pg0 ++ [nI x]).getD ((pg0 ++ [nI x]).length - 1) 0 * 10 + nI (c - 48) = nI (10 * x + (c - 48)) := by
          rw [z_getD_snoc]
          simp
          rw [Int32.mul_comm, show (10 : Int32) = nI 10 by decide, nI_mul, nI_add]
        rw [this]
        simp
    · rw [if_neg (fun g => hd g.2)]
      exact Or.inr ⟨rfl, Nat.le_refl _, hp, hm, R, rfl, ⟨h1, h2, h3, fun a b => absurd ⟨a, b⟩ hd⟩, fin x R (by omega) h6 h7⟩
theorem z_li_c (s : Int32) : z_li s = -1 ∨ ∃ k, k < 7 ∧ z_li s = nI k := by
  unfold z_li
  repeat' split
  · exact Or.inr ⟨0, by decide, rfl⟩
  · exact Or.inr ⟨1, by decide, rfl⟩
  · exact Or.inr ⟨2, by decide, rfl⟩
  · exact Or.inr ⟨3, by decide, rfl⟩
  · exact Or.inr ⟨4, by decide, rfl⟩
  · exact Or.inr ⟨5, by decide, rfl⟩
  · exact Or.inr ⟨6, by decide, rfl⟩
  · exact Or.inl rfl
theorem zkt (hx : zhx hr t m) (hT : zKT t m hr as f) (h0 : zK0 t m hr as f) : zKT t m hr as (f + 1) := by
  intro dp p R cm hR hdp hp hm hf
  obtain ⟨r1, r2, r3⟩ := hR
  rw [zp_t]
  by_cases e45 : hr p = 45
  · obtain ⟨hpm, hp4⟩ := hx.ne e45 (by decide)
    rw [if_pos ⟨rfl, e45⟩]
    refine zoc.pre (zoc.map (hT dp (p + 1) (R.1, 256 :: R.2.1, R.2.2) cm ⟨r1, r2, r3⟩ hdp (by omega) (by omega) (by omega)) (fun y => -y) ?_) (Nat.le_succ p) (zrn_s hx (by rw [e45]; decide) (by rw [z_tk_t r1, z_tt, if_pos e45]))
    rintro p' v R' ⟨k1, u, code, k2, k3, k4, k5⟩
    refine ⟨k1, u ++ [256], code ++ [-356], by rw [k2]; simp, fun s hs => ?_, ?_, fun st => ?_⟩
    · rcases List.mem_append.mp hs with hs | hs
      · exact k3 s hs
      · rw [List.mem_singleton.mp hs]; decide
    · rw [List.map_append, ← List.append_assoc, k4]; simp
    · rw [zex_app, k5, zex_1]; exact z_stp_m (by decide) rfl (by decide) rfl
  rw [if_neg (fun g => e45 g.2), if_neg (by simp)]
  by_cases e40 : hr p = 40 ∧ dp < 4
  · obtain ⟨hpm, hp4⟩ := hx.ne e40.1 (by decide)
    rw [if_pos e40]
    refine zoc.pre (zoc.bd (fun x s2 => (x, zp_need hr 41 s2)) (h0 (dp + 1) (p + 1) (R.1, 40 :: R.2.1, R.2.2.1 + 1, R.2.2.2.1, R.2.2.2.2.1, (fun q => if q = R.2.2.1 + 1 then false else R.2.2.2.2.2.1 q), R.2.2.2.2.2.2) (fun q => if q = dp + 1 then false else cm q) ⟨r1, by rw [r2], fun q hq => ?_⟩ (if_pos rfl) (Or.inr ⟨40, _, rfl, Or.inl rfl⟩) (by omega) (by omega) (by omega) (by omega)) (fun x s2 h => by simp only [zp_need]; rw [if_neg (zp_is_w h), zp_fault, if_neg h]) ?_) (Nat.le_succ p) (zrn_s hx (by rw [e40.1]; decide) (by rw [z_tk_t r1, z_tt, if_neg e45, if_pos e40.1]; unfold z_op; rw [if_neg (by omega)]))
    · simp only [r2]
      by_cases e : q = dp + 1
      · rw [if_pos e, if_pos e]
      · rw [if_neg e, if_neg e]; exact r3 q (by omega)
    rintro p' v R' k1 k2 k2m ⟨⟨k3, k4, k5⟩, ⟨u, code, k6, k7, k8, k9⟩, k10⟩
    simp only [zp_need]
    by_cases e41 : hr p' = 41
    · obtain ⟨hpm', hp4'⟩ := hx.ne e41 (by decide)
      rw [if_pos ⟨rfl, e41⟩]
      have hl : z_rl 0 R'.2.1 R'.1 = (40 :: R.2.1, R.1 ++ code) := by
        rw [k6, z_rl_u u _ _ (fun s hs => ⟨(k7 s hs).1, Int32.le_trans (by decide) (k7 s hs).2⟩), k8, z_rl, if_pos (Or.inl rfl)]
      refine Or.inr ⟨rfl, by show p' ≤ p' + 1; omega, by show p' + 1 ≤ 40; omega, by show p' + 1 ≤ m; omega, (R.1 ++ code, R.2.1, dp, 0, R'.2.2.2.2), zrn_s hx (by rw [e41]; decide) ?_, ⟨k3, rfl, fun q hq => ?_, fun _ _ => Or.inl rfl⟩, ⟨[], code, rfl, fun s hs => absurd hs List.not_mem_nil, by simp, k9⟩⟩
      · rw [z_tk_j k3, e41, z_tj, if_neg (by decide), if_pos rfl]
        unfold z_cl z_rel
        rw [if_neg (by omega), hl, k4]
        rfl
      · show R'.2.2.2.2.2.1 q = cm q
        rw [k5 q (by omega), if_neg (by omega)]
    · rw [if_neg (fun g => e41 g.2), zp_fault, if_pos rfl]
      refine Or.inl ⟨p', k2, rfl, ?_⟩
      by_cases en : hr p' = -1
      · exact zra_end hx k2m en (Or.inr (by rw [k4]; omega))
      · rw [zrn_n hx en (k10 en e41)]; rfl
  rw [if_neg e40]
  by_cases hd : 48 ≤ hr p ∧ hr p ≤ 57
  · rw [if_pos hd]
    have hne : hr p ≠ -1 := fun g => by rw [g] at hd; exact absurd hd.1 (by decide)
    obtain ⟨hpm, hp4⟩ := hx.lt hne
    obtain ⟨e1, c, hc, e2⟩ := hx.1 p hpm hp4
    have hc1 : 48 ≤ c ∧ c ≤ 57 := by
      rw [e1, e2] at hd
      rw [Int32.le_iff_toInt_le, Int32.le_iff_toInt_le, nI_toInt (by omega)] at hd
      have a1 : (48 : Int32).toInt = 48 := rfl
      have a2 : (57 : Int32).toInt = 57 := rfl
      omega
    have hv : hr p - 48 = nI (c - 48) := by
      rw [e1, e2]
      have : nI c = nI (c - 48) + 48 := by rw [show (48 : Int32) = nI 48 by decide, nI_add]; congr 1; omega
      rw [this, Int32.add_sub_cancel]
    unfold zp_num
    rw [zp_one_y (by exact ⟨hd.1, hd.2⟩)]
    simp only
    rw [hv]
    refine zoc.pre (zknl hx 2 (c - 48) (p + 1) (R.1 ++ [nI (c - 48)], R.2.1, R.2.2.1, 1, false, R.2.2.2.2.2.1, R.2.2.2.2.2.2.1 || decide (hr p = 108), R.2.2.2.2.2.2.2 || decide (hr p = 110)) (Nat.le_refl _) rfl r2 r3 rfl (by show c - 48 < 10; omega) rfl rfl (by omega) (by omega)) (Nat.le_succ p) (zrn_s hx hne ?_)
    rw [z_tk_t r1, z_tt, if_neg e45, if_neg (fun g => by rw [g] at hd; exact absurd hd.1 (by decide)), if_pos hd, hv]
  rw [if_neg hd]
  have hnone : z_li (hr p) = -1 → hr p ≠ -1 → z_tk (hr p) R = none := fun h _ => by
    rw [z_tk_t r1, z_tt, if_neg e45]
    by_cases e : hr p = 40
    · rw [if_pos e]; unfold z_op; rw [if_pos (by rw [r2]; exact Nat.le_of_not_lt (fun g => e40 ⟨e, g⟩))]
    · rw [if_neg e, if_neg hd, if_pos (by rw [h]; decide)]
  by_cases hl : z_li (hr p) = -1
  · rw [if_pos hl, zp_fault, if_pos rfl]
    refine Or.inl ⟨p, hp, rfl, ?_⟩
    by_cases en : hr p = -1
    · exact zra_end hx hm en (Or.inl r1)
    · rw [zrn_n hx en (hnone hl en)]; rfl
  rw [if_neg hl]
  have hne : hr p ≠ -1 := fun g => hl (by rw [g]; decide)
  obtain ⟨hpm, hp4⟩ := hx.lt hne
  obtain ⟨k, hk, ek⟩ := (z_li_c (hr p)).resolve_left hl
  refine Or.inr ⟨rfl, by show p ≤ p + 1; omega, by show p + 1 ≤ 40; omega, by show p + 1 ≤ m; omega, (R.1 ++ [-1 - z_li (hr p)], R.2.1, R.2.2.1, 0, false, R.2.2.2.2.2.1, R.2.2.2.2.2.2.1 || decide (hr p = 108), R.2.2.2.2.2.2.2 || decide (hr p = 110)), zrn_s hx hne ?_, ⟨rfl, r2, r3, fun _ _ => Or.inl rfl⟩, ⟨[], [-1 - z_li (hr p)], rfl, fun s hs => absurd hs List.not_mem_nil, by simp, fun st => ?_⟩⟩
  · rw [z_tk_t r1, z_tt, if_neg e45, if_neg (fun g => hl (by rw [g]; decide)), if_neg hd, if_neg (by rw [ek]; exact Int32.not_lt.mpr (nI_pos' (by omega)))]
  · rw [zex_1, ek]
    rcases (by omega : k = 0 ∨ k = 1 ∨ k = 2 ∨ k = 3 ∨ k = 4 ∨ k = 5 ∨ k = 6) with rfl | rfl | rfl | rfl | rfl | rfl | rfl
    all_goals exact z_stp_l (by decide) rfl (by decide)
theorem zkall (hx : zhx hr t m) : ∀ f, zKT t m hr as f ∧ zK4 t m hr as f ∧ zK3 t m hr as f ∧ zK2 t m hr as f ∧ zK1 t m hr as f ∧ zK0 t m hr as f
  | 0 => ⟨fun _ _ _ _ _ _ _ _ h => absurd h (by omega), fun _ _ _ _ _ _ _ _ _ _ _ _ _ h => absurd h (by omega), fun _ _ _ _ _ _ _ _ _ h => absurd h (by omega), fun _ _ _ _ _ _ _ _ _ _ _ _ _ _ _ h => absurd h (by omega), fun _ _ _ _ _ _ _ _ _ h => absurd h (by omega), fun _ _ _ _ _ _ _ _ _ _ h => absurd h (by omega)⟩
  | f + 1 => by
    obtain ⟨hT, h4, h3, h2, h1, h0⟩ := zkall hx f
    exact ⟨zkt hx hT h0, zk4 hx hT h4, zk3 hT h4, zk2 hx h3 h2, zk1 h3 h2, zk0 hx h1⟩
end PAR2
