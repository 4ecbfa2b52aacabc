/-! static helpers of class and reference -/
def eb_b (c : Prop) (σ : eb_S) : Option Value → eb_S → Prop := fun r τ => τ = σ ∧ ((c ∧ r = some (.int 1)) ∨ (¬ c ∧ r = some (.int 0)))
def eb_r (x : Int32) (σ : eb_S) : Option Value → eb_S → Prop := fun r τ => τ = σ ∧ r = some (.int x)
def eb_v (σ : eb_S) : Option Value → eb_S → Prop := fun r τ => τ = σ ∧ r = none
theorem eb_bok {c : Prop} {σ : eb_S} {l : List (Nat × Value)} {rest : List Value} : ∀ r1 σ1, eb_b c σ r1 σ1 → σ1.1 = σ.1 ∨ ((∀ q ∈ l, eb_okv σ.1 q.2) ∧ ∀ v ∈ rest, eb_okv σ.1 v) := fun _ _ h => Or.inl (by rw [h.1])
theorem eb_rok {x : Int32} {σ : eb_S} {l : List (Nat × Value)} {rest : List Value} : ∀ r1 σ1, eb_r x σ r1 σ1 → σ1.1 = σ.1 ∨ ((∀ q ∈ l, eb_okv σ.1 q.2) ∧ ∀ v ∈ rest, eb_okv σ.1 v) := fun _ _ h => Or.inl (by rw [h.1])
theorem eb_b1 {c : Prop} {M : eb_M} {d : Nat} {as : List Value} {σ : eb_S} (hc : c) (h : eb_Q M d as σ (eb_b c σ)) : eb_Q M d as σ (eb_r 1 σ) := h.to (fun r τ h => ⟨h.1, h.2.elim (fun z => z.2) (fun z => absurd hc z.1)⟩)
theorem eb_b0 {c : Prop} {M : eb_M} {d : Nat} {as : List Value} {σ : eb_S} (hc : ¬ c) (h : eb_Q M d as σ (eb_b c σ)) : eb_Q M d as σ (eb_r 0 σ) := h.to (fun r τ h => ⟨h.1, h.2.elim (fun z => absurd z.1 hc) (fun z => z.2)⟩)
theorem pn_X : plainName RX0 = true ∧ plainName RX1 = true ∧ plainName RX2 = true ∧ plainName RX3 = true ∧ plainName RX4 = true ∧ plainName RX5 = true ∧ plainName RX6 = true ∧ plainName RX7 = true ∧ plainName RX8 = true ∧ plainName RX9 = true ∧ plainName RX10 = true ∧ plainName RX11 = true := by decide +kernel
def z_put (v lo hi : Int32) : Int32 := if v < lo then lo else if hi < v then hi else v
def z_pull (b w s : Int32) : Int32 := z_put ((b + 2 * w * s) / 8) (-20) 20

theorem q_X10_within (d : Nat) (v lo hi : Int32) (σ : eb_S) : eb_Q mX10_within d [.int v, .int lo, .int hi] σ (eb_b (lo ≤ v ∧ v ≤ hi) σ) := by
  refine ep_meth pn_X.2.2.2.2.2.2.2.2.2.2.1 (Nat.le_of_ble_eq_true rfl) ?_
  show eb_P mX10_within (d) 0 [(0, .int v), (1, .int lo), (2, .int hi)] [] σ _
  refine ep_iload_n (i := 0) dX10_within_0 rfl rfl ?_
  refine ep_iload_n (i := 1) dX10_within_1 rfl rfl ?_
  refine ep_icmp_lt (tgt := 14) dX10_within_2 (by decide) (fun c1 => ?_) (fun c1 => ?_)
  · skip
    refine ep_iconst (v := 0) dX10_within_14 (by decide) ?_
    refine ep_iret dX10_within_15 rfl (by decide) ?_
    exact ⟨rfl, Or.inr ⟨by simp only [Int32.lt_iff_toInt_lt, Int32.le_iff_toInt_le] at *; omega, rfl⟩⟩
  · skip
    refine ep_iload_n (i := 0) dX10_within_5 rfl rfl ?_
    refine ep_iload_n (i := 2) dX10_within_6 rfl rfl ?_
    refine ep_icmp_gt (tgt := 14) dX10_within_7 (by decide) (fun c2 => ?_) (fun c2 => ?_)
    · skip
      refine ep_iconst (v := 0) dX10_within_14 (by decide) ?_
      refine ep_iret dX10_within_15 rfl (by decide) ?_
      exact ⟨rfl, Or.inr ⟨by simp only [Int32.lt_iff_toInt_lt, Int32.le_iff_toInt_le] at *; omega, rfl⟩⟩
    · skip
      refine ep_iconst (v := 1) dX10_within_10 (by decide) ?_
      refine ep_goto (tgt := 15) dX10_within_11 (by decide) ?_
      refine ep_iret dX10_within_15 rfl (by decide) ?_
      exact ⟨rfl, Or.inl ⟨by simp only [Int32.lt_iff_toInt_lt, Int32.le_iff_toInt_le] at *; omega, rfl⟩⟩
theorem q_X11_in (d : Nat) (v lo hi : Int32) (σ : eb_S) : eb_Q mX11_in d [.int v, .int lo, .int hi] σ (eb_b (lo ≤ v ∧ v ≤ hi) σ) := by
  refine ep_meth pn_X.2.2.2.2.2.2.2.2.2.2.2 (Nat.le_of_ble_eq_true rfl) ?_
  show eb_P mX11_in (d) 0 [(0, .int v), (1, .int lo), (2, .int hi)] [] σ _
  refine ep_iload_n (i := 0) dX11_in_0 rfl rfl ?_
  refine ep_iload_n (i := 1) dX11_in_1 rfl rfl ?_
  refine ep_icmp_lt (tgt := 14) dX11_in_2 (by decide) (fun c1 => ?_) (fun c1 => ?_)
  · skip
    refine ep_iconst (v := 0) dX11_in_14 (by decide) ?_
    refine ep_iret dX11_in_15 rfl (by decide) ?_
    exact ⟨rfl, Or.inr ⟨by simp only [Int32.lt_iff_toInt_lt, Int32.le_iff_toInt_le] at *; omega, rfl⟩⟩
  · skip
    refine ep_iload_n (i := 0) dX11_in_5 rfl rfl ?_
    refine ep_iload_n (i := 2) dX11_in_6 rfl rfl ?_
    refine ep_icmp_gt (tgt := 14) dX11_in_7 (by decide) (fun c2 => ?_) (fun c2 => ?_)
    · skip
      refine ep_iconst (v := 0) dX11_in_14 (by decide) ?_
      refine ep_iret dX11_in_15 rfl (by decide) ?_
      exact ⟨rfl, Or.inr ⟨by simp only [Int32.lt_iff_toInt_lt, Int32.le_iff_toInt_le] at *; omega, rfl⟩⟩
    · skip
      refine ep_iconst (v := 1) dX11_in_10 (by decide) ?_
      refine ep_goto (tgt := 15) dX11_in_11 (by decide) ?_
      refine ep_iret dX11_in_15 rfl (by decide) ?_
      exact ⟨rfl, Or.inl ⟨by simp only [Int32.lt_iff_toInt_lt, Int32.le_iff_toInt_le] at *; omega, rfl⟩⟩
theorem q_X10_putTo (d : Nat) (v lo hi : Int32) (σ : eb_S) : eb_Q mX10_putTo d [.int v, .int lo, .int hi] σ (eb_r (z_put v lo hi) σ) := by
  refine ep_meth pn_X.2.2.2.2.2.2.2.2.2.2.1 (Nat.le_of_ble_eq_true rfl) ?_
  show eb_P mX10_putTo (d) 0 [(0, .int v), (1, .int lo), (2, .int hi)] [] σ _
  refine ep_iload_n (i := 0) dX10_putTo_0 rfl rfl ?_
  refine ep_iload_n (i := 1) dX10_putTo_1 rfl rfl ?_
  refine ep_icmp_ge (tgt := 9) dX10_putTo_2 (by decide) (fun c1 => ?_) (fun c1 => ?_)
  · skip
    refine ep_iload_n (i := 0) dX10_putTo_9 rfl rfl ?_
    refine ep_iload_n (i := 2) dX10_putTo_10 rfl rfl ?_
    refine ep_icmp_le (tgt := 18) dX10_putTo_11 (by decide) (fun c2 => ?_) (fun c2 => ?_)
    · skip
      refine ep_iload_n (i := 0) dX10_putTo_18 rfl rfl ?_
      refine ep_iret dX10_putTo_19 rfl rfl ?_
      exact ⟨rfl, by unfold z_put; congr 2; repeat (first | rw [if_pos (by simp only [Int32.lt_iff_toInt_lt, Int32.le_iff_toInt_le] at *; omega)] | rw [if_neg (by simp only [Int32.lt_iff_toInt_lt, Int32.le_iff_toInt_le] at *; omega)])⟩
    · skip
      refine ep_iload_n (i := 2) dX10_putTo_14 rfl rfl ?_
      refine ep_goto (tgt := 19) dX10_putTo_15 (by decide) ?_
      refine ep_iret dX10_putTo_19 rfl rfl ?_
      exact ⟨rfl, by unfold z_put; congr 2; repeat (first | rw [if_pos (by simp only [Int32.lt_iff_toInt_lt, Int32.le_iff_toInt_le] at *; omega)] | rw [if_neg (by simp only [Int32.lt_iff_toInt_lt, Int32.le_iff_toInt_le] at *; omega)])⟩
  · skip
    refine ep_iload_n (i := 1) dX10_putTo_5 rfl rfl ?_
    refine ep_goto (tgt := 19) dX10_putTo_6 (by decide) ?_
    refine ep_iret dX10_putTo_19 rfl rfl ?_
    exact ⟨rfl, by unfold z_put; congr 2; repeat (first | rw [if_pos (by simp only [Int32.lt_iff_toInt_lt, Int32.le_iff_toInt_le] at *; omega)] | rw [if_neg (by simp only [Int32.lt_iff_toInt_lt, Int32.le_iff_toInt_le] at *; omega)])⟩
theorem q_X10_hasBit (d : Nat) (b k : Int32) (σ : eb_S) : eb_Q mX10_hasBit d [.int b, .int k] σ (eb_b (b >>> (k &&& 31) &&& 1 = 1) σ) := by
  refine ep_meth pn_X.2.2.2.2.2.2.2.2.2.2.1 (Nat.le_of_ble_eq_true rfl) ?_
  show eb_P mX10_hasBit (d) 0 [(0, .int b), (1, .int k)] [] σ _
  refine ep_iload_n (i := 0) dX10_hasBit_0 rfl rfl ?_
  refine ep_iload_n (i := 1) dX10_hasBit_1 rfl rfl ?_
  refine ep_ishr dX10_hasBit_2 ?_
  refine ep_iconst (v := 1) dX10_hasBit_3 (by decide) ?_
  refine ep_iand dX10_hasBit_4 ?_
  refine ep_iconst (v := 1) dX10_hasBit_5 (by decide) ?_
  refine ep_icmp_ne (tgt := 13) dX10_hasBit_6 (by decide) (fun c1 => ?_) (fun c1 => ?_)
  · skip
    refine ep_iconst (v := 0) dX10_hasBit_13 (by decide) ?_
    refine ep_iret dX10_hasBit_14 rfl (by decide) ?_
    exact ⟨rfl, Or.inr ⟨by first | assumption | (simp_all), rfl⟩⟩
  · skip
    refine ep_iconst (v := 1) dX10_hasBit_9 (by decide) ?_
    refine ep_goto (tgt := 14) dX10_hasBit_10 (by decide) ?_
    refine ep_iret dX10_hasBit_14 rfl (by decide) ?_
    exact ⟨rfl, Or.inl ⟨by first | assumption | (simp_all), rfl⟩⟩
theorem q_X11_has (d : Nat) (b k : Int32) (σ : eb_S) : eb_Q mX11_has d [.int b, .int k] σ (eb_b (b >>> (k &&& 31) &&& 1 = 1) σ) := by
  refine ep_meth pn_X.2.2.2.2.2.2.2.2.2.2.2 (Nat.le_of_ble_eq_true rfl) ?_
  show eb_P mX11_has (d) 0 [(0, .int b), (1, .int k)] [] σ _
  refine ep_iload_n (i := 0) dX11_has_0 rfl rfl ?_
  refine ep_iload_n (i := 1) dX11_has_1 rfl rfl ?_
  refine ep_ishr dX11_has_2 ?_
  refine ep_iconst (v := 1) dX11_has_3 (by decide) ?_
  refine ep_iand dX11_has_4 ?_
  refine ep_iconst (v := 1) dX11_has_5 (by decide) ?_
  refine ep_icmp_ne (tgt := 13) dX11_has_6 (by decide) (fun c1 => ?_) (fun c1 => ?_)
  · skip
    refine ep_iconst (v := 0) dX11_has_13 (by decide) ?_
    refine ep_iret dX11_has_14 rfl (by decide) ?_
    exact ⟨rfl, Or.inr ⟨by first | assumption | (simp_all), rfl⟩⟩
  · skip
    refine ep_iconst (v := 1) dX11_has_9 (by decide) ?_
    refine ep_goto (tgt := 14) dX11_has_10 (by decide) ?_
    refine ep_iret dX11_has_14 rfl (by decide) ?_
    exact ⟨rfl, Or.inl ⟨by first | assumption | (simp_all), rfl⟩⟩
theorem q_X10_pullOf (d : Nat) (b w s : Int32) (σ : eb_S) : eb_Q mX10_pullOf (d + 1) [.int b, .int w, .int s] σ (eb_r (z_pull b w s) σ) := by
  refine ep_meth pn_X.2.2.2.2.2.2.2.2.2.2.1 (Nat.le_of_ble_eq_true rfl) ?_
  show eb_P mX10_pullOf (d + 1) 0 [(0, .int b), (1, .int w), (2, .int s)] [] σ _
  refine ep_iload_n (i := 0) dX10_pullOf_0 rfl rfl ?_
  refine ep_iconst (v := 2) dX10_pullOf_1 (by decide) ?_
  refine ep_iload_n (i := 1) dX10_pullOf_2 rfl rfl ?_
  refine ep_imul dX10_pullOf_3 ?_
  refine ep_iload_n (i := 2) dX10_pullOf_4 rfl rfl ?_
  refine ep_imul dX10_pullOf_5 ?_
  refine ep_iadd dX10_pullOf_6 ?_
  refine ep_bipush (v := 8) dX10_pullOf_7 (by decide) ?_
  refine ep_idiv dX10_pullOf_9 (by decide) ?_
  refine ep_bipush (v := (-20)) dX10_pullOf_10 (by decide) ?_
  refine ep_bipush (v := 20) dX10_pullOf_12 (by decide) ?_
  refine ep_callS (M1 := mX10_putTo) (rest := []) dX10_pullOf_14 mlX10_424 msX10_putTo rfl (by decide) rfl (q_X10_putTo _ ((b + ((2 * w) * s)) / 8) (-20) 20 σ) eb_rok ?_
  rintro _ _ ⟨rfl, rfl⟩
  show eb_P _ _ 17 [(0, .int b), (1, .int w), (2, .int s)] (.int (z_put ((b + ((2 * w) * s)) / 8) (-20) 20) :: []) _ _
  refine ep_iret dX10_pullOf_17 rfl rfl ?_
  exact ⟨rfl, by rfl⟩
