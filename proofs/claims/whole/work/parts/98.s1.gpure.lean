/-! grave: chances by paths (bit k of s: the wind of the hour k) -/
def zgw (s k : Nat) : Int32 := if s.testBit k = true then 9 else -9
def zgx (T : zT) (s : Nat) : Nat → Nat → Int32
  | 0 => T.x
  | k + 1 => zh1 T (zgw s k) (zgx T s k)
def zgn (T : zT) (s : Nat) : Nat → Nat
  | 0 => 0
  | k + 1 => zgn T s k + (if z_ab (zhl T (zgw s k) (zgx T s k)) < 15 then 0 else 1)
def zgt (p s : Nat) : Nat → Nat
  | 0 => 1
  | k + 1 => zgt p s k * (if s.testBit k = true then p else 10 - p)
def znsum (f : Nat → Nat) : Nat → Nat
  | 0 => 0
  | k + 1 => znsum f k + f k
def zgi (T : zT) (s k : Nat) : Nat := (zgx T s k 22 + 20).toNatClampNeg
def zgu (T : zT) (p n : Nat) : Nat := znsum (fun s => if zgn T s n = 0 then 0 else zgt p s n) (2 ^ n)
def zgwi (T : zT) (p k i : Nat) : Nat := znsum (fun s => if zgi T s k = i then (if zgn T s k = 0 then zgt p s k else 0) else 0) (2 ^ k)
theorem znsum_cg {f g : Nat → Nat} : ∀ k, (∀ s, s < k → f s = g s) → znsum f k = znsum g k
  | 0, _ => rfl
  | k + 1, h => by rw [znsum, znsum, znsum_cg k (fun s hs => h s (by omega)), h k (by omega)]
theorem znsum_add {f : Nat → Nat} (a : Nat) : ∀ b, znsum f (a + b) = znsum f a + znsum (fun s => f (a + s)) b
  | 0 => rfl
  | b + 1 => by rw [← Nat.add_assoc, znsum, znsum_add a b, znsum]; omega
theorem znsum_pls {f g : Nat → Nat} : ∀ k, znsum f k + znsum g k = znsum (fun s => f s + g s) k
  | 0 => rfl
  | k + 1 => by rw [znsum, znsum, znsum, ← znsum_pls k]; omega
theorem znsum_mul {f : Nat → Nat} {c : Nat} : ∀ k, c * znsum f k = znsum (fun s => c * f s) k
  | 0 => rfl
  | k + 1 => by rw [znsum, znsum, ← znsum_mul k, Nat.mul_add]
theorem znsum_le {f g : Nat → Nat} : ∀ k, (∀ s, s < k → f s ≤ g s) → znsum f k ≤ znsum g k
  | 0, _ => Nat.le_refl _
  | k + 1, h => by rw [znsum, znsum]; exact Nat.add_le_add (znsum_le k (fun s hs => h s (by omega))) (h k (by omega))
theorem znsum_0 : ∀ k, znsum (fun _ => 0) k = 0
  | 0 => rfl
  | k + 1 => by rw [znsum, znsum_0 k]
theorem znsum_one {L w : Nat} {g : Nat → Nat} : ∀ N, L < N → znsum (fun i => (if L = i then w else 0) * g i) N = w * g L
  | 0, h => absurd h (by omega)
  | N + 1, h => by
    rw [znsum]
    by_cases e : L = N
    · subst e
      rw [if_pos rfl, znsum_cg (g := fun _ => 0) L (fun s hs => by rw [if_neg (by omega), Nat.zero_mul]), znsum_0, Nat.zero_add]
    · rw [if_neg e, Nat.zero_mul, Nat.add_zero]; exact znsum_one N (by omega)
theorem znx {L w g : Nat → Nat} {N : Nat} : ∀ M, (∀ s, s < M → L s < N) → znsum (fun i => znsum (fun s => if L s = i then w s else 0) M * g i) N = znsum (fun s => w s * g (L s)) M
  | 0, _ => by rw [znsum, znsum_cg (g := fun _ => 0) N (fun s _ => by rw [znsum, Nat.zero_mul]), znsum_0]
  | M + 1, h => by
    rw [znsum, ← znx M (fun s hs => h s (by omega)), ← znsum_one (L := L M) (w := w M) (g := g) N (h M (by omega)), znsum_pls]
    exact znsum_cg N (fun i _ => by rw [znsum, Nat.add_mul])
section ZGB
variable {T : zT} {p : Nat}
theorem zg_cg {s s' : Nat} : ∀ k, (∀ j, j < k → s.testBit j = s'.testBit j) → zgx T s k = zgx T s' k ∧ zgn T s k = zgn T s' k ∧ zgt p s k = zgt p s' k
  | 0, _ => ⟨rfl, rfl, rfl⟩
  | k + 1, h => by
    obtain ⟨h1, h2, h3⟩ := zg_cg k (fun j hj => h j (by omega))
    have hw : zgw s k = zgw s' k := by unfold zgw; rw [h k (by omega)]
    rw [zgx, zgx, zgn, zgn, zgt, zgt, h1, h2, h3, hw, h k (by omega)]
    exact ⟨rfl, rfl, rfl⟩
theorem zg_hi {s k : Nat} : (∀ j, j < k → (2 ^ k + s).testBit j = s.testBit j) := fun j hj => Nat.testBit_two_pow_add_gt hj s
theorem zg_b0 {s k : Nat} (h : s < 2 ^ k) : s.testBit k = false := Nat.testBit_lt_two_pow h
theorem zg_b1 {s k : Nat} (h : s < 2 ^ k) : (2 ^ k + s).testBit k = true := by rw [Nat.testBit_two_pow_add_eq, zg_b0 h]; rfl
theorem zgt_cg {s s' : Nat} : ∀ k, (∀ j, j < k → s.testBit j = s'.testBit j) → zgt p s k = zgt p s' k
  | 0, _ => rfl
  | k + 1, h => by rw [zgt, zgt, zgt_cg k (fun j hj => h j (by omega)), h k (by omega)]
theorem zg_tot (hp : p ≤ 10) : ∀ k, znsum (fun s => zgt p s k) (2 ^ k) = 10 ^ k
  | 0 => rfl
  | k + 1 => by
    rw [show 2 ^ (k + 1) = 2 ^ k + 2 ^ k by omega, znsum_add, znsum_pls]
    have : ∀ s, s < 2 ^ k → zgt p s (k + 1) + zgt p (2 ^ k + s) (k + 1) = 10 * zgt p s k := fun s hs => by
      rw [zgt, zgt, zg_b0 hs, zg_b1 hs, zgt_cg k zg_hi, if_pos rfl, if_neg (by decide), ← Nat.mul_add, show 10 - p + p = 10 by omega, Nat.mul_comm]
    rw [znsum_cg _ this, ← znsum_mul, zg_tot hp k, Nat.pow_succ, Nat.mul_comm]
theorem zgu_le (hp : p ≤ 10) (k : Nat) : zgu T p k ≤ 10 ^ k := by
  rw [← zg_tot hp k]
  exact znsum_le _ (fun s _ => by split <;> omega)
theorem zgwi_le (hp : p ≤ 10) (k i : Nat) : zgwi T p k i ≤ 10 ^ k := by
  rw [← zg_tot hp k]
  exact znsum_le _ (fun s _ => by split; split; exact Nat.le_refl _; exact Nat.zero_le _; exact Nat.zero_le _)
/-- the row of one that was never over, by its lean and the hour -/
def zlh (T : zT) (k i : Nat) : Nat → Int32 := zup (zup T.x 22 (nI i - 20)) 25 (T.x 25 + nI k)
def zgl (T : zT) (k i : Nat) (w : Int32) : Int32 := zhl T w (zlh T k i)
theorem zg_row {s : Nat} : ∀ k, zgn T s k = 0 → (∀ q, q < 22 → zgx T s k q = T.x q) ∧ zgx T s k 25 = T.x 25 + nI k
  | 0, _ => ⟨fun _ _ => rfl, by rw [zgx, nI_0]; exact (Int32.add_zero _).symm⟩
  | k + 1, h => by
    rw [zgn] at h
    have h0 : zgn T s k = 0 := by omega
    have hl : z_ab (zhl T (zgw s k) (zgx T s k)) < 15 := Classical.byContradiction (fun g => by rw [if_neg g] at h; omega)
    obtain ⟨h1, h2⟩ := zg_row k h0
    refine ⟨fun q hq => ?_, ?_⟩
    · rw [zgx]; unfold zh1
      by_cases e : q = 21
      · rw [if_pos e, if_pos hl, e]; exact h1 21 (by omega)
      · rw [if_neg e, if_neg (by omega), if_neg (by omega), if_neg (by omega), if_neg (by omega)]; exact h1 q hq
    · rw [zgx]; unfold zh1
      rw [if_neg (by decide), if_neg (by decide), if_neg (by decide), if_neg (by decide), if_pos rfl, h2, Int32.add_assoc, show nI k + 1 = nI (k + 1) from nI_1 k]
theorem zgw_wr {s k : Nat} : z_wr (zgw s k) := by
  unfold zgw
  split
  · exact ⟨18, by decide, by decide⟩
  · exact ⟨0, by decide, by decide⟩
theorem zgx_xr {H s : Nat} (hO : zOk H T) : ∀ k, zxr T.c (H + k) (zgx T s k)
  | 0 => hO.x
  | k + 1 => zh1_xr (zgx_xr hO k) zgw_wr hO.c
theorem zgi_at {H s k : Nat} (hO : zOk H T) : zgi T s k < 41 ∧ zgx T s k 22 = nI (zgi T s k) - 20 := by
  obtain ⟨v, hv, e⟩ := (zgx_xr (s := s) hO k).l
  unfold zgi
  rw [e, Int32.sub_add_cancel, nI_clamp (by omega)]
  exact ⟨hv, rfl⟩
theorem zg_lean {H s k : Nat} (hO : zOk H T) (h : zgn T s k = 0) (w : Int32) : zhl T w (zgx T s k) = zgl T k (zgi T s k) w := by
  obtain ⟨h1, h2⟩ := zg_row k h
  have h3 := (zgi_at (s := s) (k := k) hO).2
  have e22 : zlh T k (zgi T s k) 22 = nI (zgi T s k) - 20 := by unfold zlh zup; rw [if_neg (by decide), if_pos rfl]
  have e25 : zlh T k (zgi T s k) 25 = T.x 25 + nI k := by unfold zlh zup; rw [if_pos rfl]
  have eq : ∀ q, q < 22 → zlh T k (zgi T s k) q = T.x q := fun q hq => by unfold zlh zup; rw [if_neg (by omega), if_neg (by omega)]
  have hc := hO.c
  unfold zgl zhl
  rw [e22, e25, eq 21 (by decide), h1 21 (by decide), h2, h3]
  congr 2
  exact zsl_cg (fun o ho => ⟨by rw [h1 o (by omega), eq o (by omega)], by rw [h1 _ (by omega), eq _ (by omega)], by rw [h1 _ (by omega), eq _ (by omega)]⟩) (fun _ _ => rfl) (fun o ho => by rw [h1 _ (by omega)]; exact hO.x.t o ho) T.c (Nat.le_refl _)
/-- where one goes, and whether she is over then -/
def zgC (T : zT) (k i : Nat) (w : Int32) (j : Nat) : Prop := z_ab (zgl T k i w) < 15 ∧ (zgl T k i w + 20).toNatClampNeg = j
def zgg (T : zT) (p k j i : Nat) : Nat := (if z_ab (zgl T k i 9) < 15 ∧ (zgl T k i 9 + 20).toNatClampNeg = j then p else 0) + (if z_ab (zgl T k i (-9)) < 15 ∧ (zgl T k i (-9) + 20).toNatClampNeg = j then 10 - p else 0)
def zgh (T : zT) (p k i : Nat) : Nat := (if z_ab (zgl T k i 9) < 15 then 0 else p) + (if z_ab (zgl T k i (-9)) < 15 then 0 else 10 - p)
theorem zg_w0 {s k : Nat} (h : s < 2 ^ k) : zgw s k = -9 := by unfold zgw; rw [zg_b0 h]; rfl
theorem zg_w1 {s k : Nat} (h : s < 2 ^ k) : zgw (2 ^ k + s) k = 9 := by unfold zgw; rw [zg_b1 h]; rfl
theorem zgx_22 {s k : Nat} : zgx T s (k + 1) 22 = zhl T (zgw s k) (zgx T s k) := by
  rw [zgx]; unfold zh1; rw [if_neg (by decide), if_pos rfl]
theorem zg_lo {H s k : Nat} (hO : zOk H T) (hs : s < 2 ^ k) (h0 : zgn T s k = 0) : zgi T s (k + 1) = (zgl T k (zgi T s k) (-9) + 20).toNatClampNeg ∧ zgn T s (k + 1) = (if z_ab (zgl T k (zgi T s k) (-9)) < 15 then 0 else 1) ∧ zgt p s (k + 1) = zgt p s k * (10 - p) := by
  refine ⟨?_, ?_, ?_⟩
  · show (zgx T s (k + 1) 22 + 20).toNatClampNeg = _
    rw [zgx_22, zg_w0 hs, zg_lean hO h0]
  · rw [zgn, zg_w0 hs, zg_lean hO h0, h0, Nat.zero_add]
  · rw [zgt, zg_b0 hs, if_neg (by decide)]
theorem zg_up {H s k : Nat} (hO : zOk H T) (hs : s < 2 ^ k) (h0 : zgn T s k = 0) : zgi T (2 ^ k + s) (k + 1) = (zgl T k (zgi T s k) 9 + 20).toNatClampNeg ∧ zgn T (2 ^ k + s) (k + 1) = (if z_ab (zgl T k (zgi T s k) 9) < 15 then 0 else 1) ∧ zgt p (2 ^ k + s) (k + 1) = zgt p s k * p := by
  obtain ⟨c1, c2, c3⟩ := zg_cg (T := T) (p := p) (s := 2 ^ k + s) (s' := s) k zg_hi
  refine ⟨?_, ?_, ?_⟩
  · show (zgx T (2 ^ k + s) (k + 1) 22 + 20).toNatClampNeg = _
    rw [zgx_22, zg_w1 hs, c1, zg_lean hO h0]
  · rw [zgn, zg_w1 hs, c1, c2, zg_lean hO h0, h0, Nat.zero_add]
  · rw [zgt, zg_b1 hs, c3, if_pos rfl]
theorem zg_no {s k : Nat} (h0 : ¬ zgn T s k = 0) : ¬ zgn T s (k + 1) = 0 ∧ ¬ zgn T (2 ^ k + s) (k + 1) = 0 := by
  have c2 := (zg_cg (T := T) (p := 0) (s := 2 ^ k + s) (s' := s) k zg_hi).2.1
  refine ⟨?_, ?_⟩
  · rw [zgn]; omega
  · rw [zgn, c2]; omega
theorem zg_4 {w p A B : Nat} {a b : Prop} [Decidable a] [Decidable b] {j : Nat} : (if A = j then (if (if a then 0 else 1) = 0 then w * (10 - p) else 0) else 0) + (if B = j then (if (if b then 0 else 1) = 0 then w * p else 0) else 0) = w * ((if b ∧ B = j then p else 0) + (if a ∧ A = j then 10 - p else 0)) := by
  by_cases h1 : A = j <;> by_cases h2 : a <;> by_cases h3 : B = j <;> by_cases h4 : b <;> simp [h1, h2, h3, h4, Nat.mul_add, Nat.add_comm]
theorem zg_5 {w p : Nat} {a b : Prop} [Decidable a] [Decidable b] : (if (if a then 0 else 1) = 0 then 0 else w * (10 - p)) + (if (if b then 0 else 1) = 0 then 0 else w * p) = 0 + w * ((if b then 0 else p) + (if a then 0 else 10 - p)) := by
  by_cases h2 : a <;> by_cases h4 : b <;> simp [h2, h4, Nat.mul_add, Nat.add_comm]
theorem zgwi_s {H : Nat} (hO : zOk H T) (k j : Nat) : zgwi T p (k + 1) j = znsum (fun i => zgwi T p k i * zgg T p k j i) 41 := by
  unfold zgwi
  rw [znx (L := fun s => zgi T s k) (2 ^ k) (fun s _ => (zgi_at hO).1), show 2 ^ (k + 1) = 2 ^ k + 2 ^ k by omega, znsum_add, znsum_pls]
  refine znsum_cg _ (fun s hs => ?_)
  by_cases h0 : zgn T s k = 0
  · obtain ⟨l1, l2, l3⟩ := zg_lo (p := p) hO hs h0
    obtain ⟨u1, u2, u3⟩ := zg_up (p := p) hO hs h0
    rw [l1, l2, l3, u1, u2, u3, if_pos h0]
    exact zg_4
  · obtain ⟨n1, n2⟩ := zg_no h0
    rw [if_neg n1, if_neg n2, if_neg h0, Nat.zero_mul]
    split <;> split <;> rfl
theorem zgu_s {H : Nat} (hO : zOk H T) (hp : p ≤ 10) (k : Nat) : zgu T p (k + 1) = 10 * zgu T p k + znsum (fun i => zgwi T p k i * zgh T p k i) 41 := by
  unfold zgu zgwi
  rw [znx (L := fun s => zgi T s k) (2 ^ k) (fun s _ => (zgi_at hO).1), show 2 ^ (k + 1) = 2 ^ k + 2 ^ k by omega, znsum_add, znsum_pls, znsum_mul, znsum_pls]
  refine znsum_cg _ (fun s hs => ?_)
  by_cases h0 : zgn T s k = 0
  · obtain ⟨l1, l2, l3⟩ := zg_lo (p := p) hO hs h0
    obtain ⟨u1, u2, u3⟩ := zg_up (p := p) hO hs h0
    rw [l2, l3, u2, u3, if_pos h0, if_pos h0, Nat.mul_zero]
    exact zg_5
  · obtain ⟨n1, n2⟩ := zg_no h0
    have e1 : zgt p s (k + 1) + zgt p (2 ^ k + s) (k + 1) = 10 * zgt p s k := by
      rw [zgt, zgt, zg_b0 hs, zg_b1 hs, zgt_cg k zg_hi, if_pos rfl, if_neg (by decide), ← Nat.mul_add, show 10 - p + p = 10 by omega, Nat.mul_comm]
    rw [if_neg n1, if_neg n2, if_neg h0, if_neg h0, Nat.zero_mul, Nat.add_zero]
    exact e1
theorem zgu_0 : zgu T p 0 = 0 := rfl
theorem zgwi_0 {i : Nat} : zgwi T p 0 i = if (T.x 22 + 20).toNatClampNeg = i then 1 else 0 := by
  show 0 + (if zgi T 0 0 = i then (if zgn T 0 0 = 0 then zgt p 0 0 else 0) else 0) = _
  rw [Nat.zero_add, show zgn T 0 0 = 0 from rfl, show zgt p 0 0 = 1 from rfl, if_pos rfl]
  rfl
end ZGB
