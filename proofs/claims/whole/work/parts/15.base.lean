/-! loops, small facts -/
/-- a loop that counts up: X k a is the state at its head at the k-th round -/
theorem ep_for {α : Type} {M : eb_M} {d pc : Nat} {Φ : Option Value → eb_S → Prop} (N : Nat) (X : Nat → α → List (Nat × Value) × eb_S) (Inv : Nat → α → Prop)
    (hs : ∀ k a, k < N → Inv k a → (∀ a', Inv (k + 1) a' → eb_P M d pc (X (k + 1) a').1 [] (X (k + 1) a').2 Φ) → eb_P M d pc (X k a).1 [] (X k a).2 Φ)
    (he : ∀ a, Inv N a → eb_P M d pc (X N a).1 [] (X N a).2 Φ) : ∀ (j k : Nat) (a : α), j + k = N → Inv k a → eb_P M d pc (X k a).1 [] (X k a).2 Φ := by
  intro j
  induction j with
  | zero => intro k a hk h; rw [Nat.zero_add] at hk; subst hk; exact he a h
  | succ j ih => intro k a hk h; exact hs k a (by omega) h (fun a' h' => ih (k + 1) a' (by omega) h')
theorem eb_lt {a b : Nat} (ha : a < 2 ^ 31) (hb : b < 2 ^ 31) : nI a < nI b ↔ a < b := by
  constructor
  · intro h; exact Nat.lt_of_not_le (fun h2 => by have := nI_le h2 ha; exact absurd h (Int32.not_lt.mpr this))
  · intro h; exact nI_lt h hb
