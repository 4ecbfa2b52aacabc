/-! loops, small facts -/
/-- a loop that counts up: X k a is the state at its head at the k-th round -/
theorem ep_for {α : Type} {M : eb_M} {d pc : Nat} {Φ : Option Value → eb_S → Prop} (N : Nat) (X : Nat → α → List (Nat × Value) × eb_S) (Inv : Nat → α → Prop)
    (hs : ∀ k a, k < N → Inv k a → (∀ a', Inv (k + 1) a' → eb_P M d pc (X (k + 1) a').1 [] (X (k + 1) a').2 Φ) → eb_P M d pc (X k a).1 [] (X k a).2 Φ)
    (he : ∀ a, Inv N a → eb_P M d pc (X N a).1 [] (X N a).2 Φ) : ∀ (j k : Nat) (a : α), j + k = N → Inv k a → eb_P M d pc (X k a).1 [] (X k a).2 Φ := by
  intro j
  induction j with
  | zero => intro k a hk h; rw [Nat.zero_add] at hk; subst hk; exact he a h
  | succ j ih => intro k a hk h; exact hs k a (by omega) h (fun a' h' => ih (k + 1) a' (by omega) h')
theorem eb_lt {a b : Nat} (ha : a < 2 ^ 31) (hb : b < 2 ^ 31) : nI a < nI b ↔ a < b := by
  constructor
  · intro h; exact Nat.lt_of_not_le (fun h2 => by have := nI_le h2 ha; exact absurd h (Int32.not_lt.mpr this))
  · intro h; exact nI_lt h hb
/-- one place of the memory set -/
def z_set (I : Nat → Nat → Int32) (i k : Nat) (x : Int32) : Nat → Nat → Int32 := fun a q => if a = i ∧ q = k then x else I a q
def z_setL (L : Nat → Nat → Int64) (i k : Nat) (x : Int64) : Nat → Nat → Int64 := fun a q => if a = i ∧ q = k then x else L a q
theorem z_set_eq (I : Nat → Nat → Int32) (i k : Nat) (x : Int32) : va_up I i (upd (I i) k x) = z_set I i k x := by
  funext a q
  by_cases ha : a = i <;> by_cases hq : q = k <;> simp [va_up, upd, z_set, ha, hq]
theorem z_setL_eq (L : Nat → Nat → Int64) (i k : Nat) (x : Int64) : va_up L i (vp_updL (L i) k x) = z_setL L i k x := by
  funext a q
  by_cases ha : a = i <;> by_cases hq : q = k <;> simp [va_up, vp_updL, z_setL, ha, hq]
theorem z_set_ne {I : Nat → Nat → Int32} {i k a : Nat} {x : Int32} (h : a ≠ i) : z_set I i k x a = I a := by
  funext q
  simp [z_set, h]
section EBI
variable {M : eb_M} {d pc : Nat} {l : List (Nat × Value)} {st : List Value} {Φ : Option Value → eb_S → Prop} {n : Nat} {sl : Nat × Nat} {kd : Nat → Nat × Nat} {I : Nat → Nat → Int32} {L : Nat → Nat → Int64} {Rf : Nat → Nat → Option Nat} {i len k : Nat}
theorem ep_iaN (hd : decode M.2.1 pc = .ok (.iaload, 1)) (hi : i < n) (hk : kd i = (20, len)) (hlt : k < len) (hl : len < 2147483648) (kk : eb_P M d (pc + 1) l (.int (I i k) :: st) (n, sl, kd, I, L, Rf) Φ) : eb_P M d pc l (.int (nI k) :: .ref i :: st) (n, sl, kd, I, L, Rf) Φ :=
  ep_iald hd hi hk (vp_in_nI hlt hl) (by rw [nI_clamp (by omega)]; exact kk)
theorem ep_baN (hd : decode M.2.1 pc = .ok (.baload, 1)) (hi : i < n) (hk : kd i = (21, len)) (hlt : k < len) (hl : len < 2147483648) (kk : eb_P M d (pc + 1) l (.int (I i k) :: st) (n, sl, kd, I, L, Rf) Φ) : eb_P M d pc l (.int (nI k) :: .ref i :: st) (n, sl, kd, I, L, Rf) Φ :=
  ep_bald hd hi hk (vp_in_nI hlt hl) (by rw [nI_clamp (by omega)]; exact kk)
theorem ep_zaN (hd : decode M.2.1 pc = .ok (.baload, 1)) (hi : i < n) (hk : kd i = (22, len)) (hlt : k < len) (hl : len < 2147483648) (kk : eb_P M d (pc + 1) l (.int (I i k) :: st) (n, sl, kd, I, L, Rf) Φ) : eb_P M d pc l (.int (nI k) :: .ref i :: st) (n, sl, kd, I, L, Rf) Φ :=
  ep_zald hd hi hk (vp_in_nI hlt hl) (by rw [nI_clamp (by omega)]; exact kk)
theorem ep_laN (hd : decode M.2.1 pc = .ok (.laload, 1)) (hi : i < n) (hk : kd i = (23, len)) (hlt : k < len) (hl : len < 2147483648) (kk : eb_P M d (pc + 1) l (.long (L i k) :: st) (n, sl, kd, I, L, Rf) Φ) : eb_P M d pc l (.int (nI k) :: .ref i :: st) (n, sl, kd, I, L, Rf) Φ :=
  ep_lald hd hi hk (vp_in_nI hlt hl) (by rw [nI_clamp (by omega)]; exact kk)
theorem ep_aaN {j : Nat} (hd : decode M.2.1 pc = .ok (.aaload, 1)) (hi : i < n) (hk : kd i = (24, len)) (hlt : k < len) (hl : len < 2147483648) (hr : Rf i k = some j) (kk : eb_P M d (pc + 1) l (.ref j :: st) (n, sl, kd, I, L, Rf) Φ) : eb_P M d pc l (.int (nI k) :: .ref i :: st) (n, sl, kd, I, L, Rf) Φ :=
  ep_aald hd hi hk (vp_in_nI hlt hl) (by rw [nI_clamp (by omega)]; exact hr) kk
theorem ep_isN {x : Int32} (hd : decode M.2.1 pc = .ok (.iastore, 1)) (hi : i < n) (hX : i < 1000000) (hk : kd i = (20, len)) (hlt : k < len) (hl : len < 2147483648) (kk : eb_P M d (pc + 1) l st (n, sl, kd, z_set I i k x, L, Rf) Φ) : eb_P M d pc l (.int x :: .int (nI k) :: .ref i :: st) (n, sl, kd, I, L, Rf) Φ :=
  ep_iast hd hi hX hk (vp_in_nI hlt hl) (by rw [nI_clamp (by omega), z_set_eq]; exact kk)
theorem ep_bsN {x : Int32} (hd : decode M.2.1 pc = .ok (.bastore, 1)) (hi : i < n) (hX : i < 1000000) (hk : kd i = (21, len)) (hlt : k < len) (hl : len < 2147483648) (kk : eb_P M d (pc + 1) l st (n, sl, kd, z_set I i k (vp_nar .byte x), L, Rf) Φ) : eb_P M d pc l (.int x :: .int (nI k) :: .ref i :: st) (n, sl, kd, I, L, Rf) Φ :=
  ep_bast hd hi hX hk (vp_in_nI hlt hl) (by rw [nI_clamp (by omega), z_set_eq]; exact kk)
theorem ep_zsN {x : Int32} (hd : decode M.2.1 pc = .ok (.bastore, 1)) (hi : i < n) (hX : i < 1000000) (hk : kd i = (22, len)) (hlt : k < len) (hl : len < 2147483648) (kk : eb_P M d (pc + 1) l st (n, sl, kd, z_set I i k (vp_nar .boolean x), L, Rf) Φ) : eb_P M d pc l (.int x :: .int (nI k) :: .ref i :: st) (n, sl, kd, I, L, Rf) Φ :=
  ep_zast hd hi hX hk (vp_in_nI hlt hl) (by rw [nI_clamp (by omega), z_set_eq]; exact kk)
theorem ep_lsN {x : Int64} (hd : decode M.2.1 pc = .ok (.lastore, 1)) (hi : i < n) (hk : kd i = (23, len)) (hlt : k < len) (hl : len < 2147483648) (kk : eb_P M d (pc + 1) l st (n, sl, kd, I, z_setL L i k x, Rf) Φ) : eb_P M d pc l (.long x :: .int (nI k) :: .ref i :: st) (n, sl, kd, I, L, Rf) Φ :=
  ep_last hd hi hk (vp_in_nI hlt hl) (by rw [nI_clamp (by omega), z_setL_eq]; exact kk)
theorem ep_pI {c idx : Nat} {x : Int32} (hd : decode M.2.1 pc = .ok (.putfield idx, 3)) (hF : eb_PL M.1.cls idx c k 0 false) (hi : i < n) (hX : i < 1000000) (hk : (kd i).1 = c) (hn : narrow (eb_ty c k) (.int x) = .int x) (hf : fits (eb_ty c k) (.int x) = true) (kk : eb_P M d (pc + 3) l st (n, sl, kd, z_set I i k x, L, Rf) Φ) : eb_P M d pc l (.int x :: .ref i :: st) (n, sl, kd, I, L, Rf) Φ :=
  ep_putI hd hF hi hX hk hn hf (by rw [z_set_eq]; exact kk)
end EBI
theorem ep_topE {M : eb_M} {d pc : Nat} {l : List (Nat × Value)} {st : List Value} {σ : eb_S} {Φ : Option Value → eb_S → Prop} {x y : Int32} (h : x = y) (k : eb_P M d pc l (.int y :: st) σ Φ) : eb_P M d pc l (.int x :: st) σ Φ := by rw [h]; exact k
theorem ep_sbyteN {M : eb_M} {d pc : Nat} {l : List (Nat × Value)} {st : List Value} {σ : eb_S} {Φ : Option Value → eb_S → Prop} {i k : Nat} (hd : decode M.2.1 pc = .ok (.baload, 1)) (hi : i < 11) (hk : k < eb_len.getD i 0) (kk : eb_P M d (pc + 1) l (.int ((eb_byt.getD i []).getD k 0) :: st) σ Φ) : eb_P M d pc l (.int (nI k) :: .ref (1000020 + i) :: st) σ Φ := by
  have h8 : ∀ i, i < 11 → eb_len.getD i 0 ≤ 7 := by decide
  have h9 := h8 i hi
  exact ep_sbyte hd hi (vp_in_nI hk (by omega)) (by rw [nI_clamp (by omega)]) kk
theorem pk_of {x : Int32} {c : Nat} (hc : c < 2147483648) (h0 : 0 ≤ x) (h1 : x < nI c) : ∃ b, b < c ∧ x = nI b := by
  rcases pk_ix x (n := c) hc with h | h | ⟨j, h2, h3⟩
  · simp only [Int32.lt_iff_toInt_lt, Int32.le_iff_toInt_le] at *; omega
  · simp only [Int32.lt_iff_toInt_lt, Int32.le_iff_toInt_le] at *; omega
  · exact ⟨j, h2, h3⟩
