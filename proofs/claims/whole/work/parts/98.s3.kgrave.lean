/-! the class: grave, its parts -/
theorem k_bih {n : Nat} {sl : Nat × Nat} {kd : Nat → Nat × Nat} {I : Nat → Nat → Int32} {L : Nat → Nat → Int64} {Rf : Nat → Nat → Option Nat} {T : zT} {H : Nat} (d : Nat) (hC : zC n kd I L Rf T) (hO : zOk H T) {j : Nat} (hj : j ∈ zsh) {x : Nat → Int32} (hs : zcS I j T.c x) {H2 : Nat} (hx : zxr T.c H2 x) (hH : H2 ≤ 1100000000) {y : Nat → Int32} (hy : zcr x y) (f : Nat) : ez_Q f (zBm T y) f (fun C => C = zBm T y) mX6_ballastInHours (d + 4) [.ref 5, .ref j] (n, sl, kd, I, L, Rf) (eb_r (zst T x) (n, sl, kd, I, L, Rf)) := by
  obtain ⟨a, hS, hu⟩ := hC.S
  obtain ⟨s0, h40, hs0, hv⟩ := hu.v
  obtain ⟨hr, hhr, ehr⟩ := hx.h
  have hrv : (fun th => z_val (I (a + 1)) th s0) = T.rv := funext hv
  have hbl : ∀ ln h, zbl T.rv (I 6) T.c (zrow I j) ln h = zsl T.rv T.pr T.c x ln (nI h) T.c := fun ln h => zsl_T hO hC.pr hs hx ln (nI h)
  have hv2 : zsl T.rv (I 6) T.c (zrow I j) (x 22) (nI hr) T.c = zst T x := by unfold zst; rw [ehr]; exact hbl (x 22) hr
  have h := y_X6_ballastInHours (sl := sl) (L := L) d hC.F hS hj (hs.thk hx hO.c) hs0 h40 (by rw [hs.l]; exact hx.l) (hs.h.trans ehr) (by omega) (B := zBm T y) (by
    rw [hrv, hs.l, hs.h, ehr, hv2, ← zBm_cr hO.c hx hy]
    unfold zst; rw [ehr]
    exact zsl_sees hu x hx.l (by omega) T.c) f
  rw [hrv, hs.l, hs.h, ehr, hv2] at h
  exact h
def zgoM (I : Nat → Nat → Int32) (b : Nat) (l m : Int32) : Nat → Nat → Int32 := if z_ab l < 15 then z_set I b (l + 20).toNatClampNeg (I b (l + 20).toNatClampNeg + m) else z_set I 102 2 (I 102 2 + m)
theorem zgoM_ne {I : Nat → Nat → Int32} {b c : Nat} {l m : Int32} (h1 : c ≠ b) (h2 : c ≠ 102) : zgoM I b l m c = I c := by
  unfold zgoM; split
  · exact z_set_ne h1
  · exact z_set_ne h2
theorem zgoM_b {I : Nat → Nat → Int32} {b j : Nat} {l m : Int32} (hb : b ≠ 102) : zgoM I b l m b j = I b j + (if z_ab l < 15 ∧ (l + 20).toNatClampNeg = j then m else 0) := by
  unfold zgoM
  by_cases h : z_ab l < 15
  · rw [if_pos h]
    by_cases e : (l + 20).toNatClampNeg = j
    · rw [if_pos ⟨h, e⟩, ← e, z_set_at]
    · rw [if_neg (fun g => e g.2), z_set_nk (fun g => e g.symm), Int32.add_zero]
  · rw [if_neg h, if_neg (fun g => h g.1), z_set_ne hb, Int32.add_zero]
theorem zgoM_o {I : Nat → Nat → Int32} {b : Nat} {l m : Int32} (hb : b ≠ 102) : zgoM I b l m 102 2 = I 102 2 + (if z_ab l < 15 then 0 else m) := by
  unfold zgoM
  by_cases h : z_ab l < 15
  · rw [if_pos h, if_pos h, z_set_ne (fun g => hb g.symm), Int32.add_zero]
  · rw [if_neg h, if_neg h, z_set_at]
def zlr (T : zT) (k : Nat) (l : Int32) : Nat → Int32 := zup (zup T.x 22 l) 25 (T.x 25 + nI k)
theorem zlr_h {T : zT} {k i : Nat} : zlr T k (nI i - 20) = zlh T k i := rfl
theorem zlr_o {T : zT} {k q : Nat} {l : Int32} (h : q ≠ 22) (h2 : q ≠ 25) : zlr T k l q = T.x q := by unfold zlr zup; rw [if_neg h2, if_neg h]
theorem zlr_22 {T : zT} {k : Nat} {l : Int32} : zlr T k l 22 = l := by unfold zlr zup; rw [if_neg (by decide), if_pos rfl]
theorem zlr_25 {T : zT} {k : Nat} {l : Int32} : zlr T k l 25 = T.x 25 + nI k := by unfold zlr zup; rw [if_pos rfl]
theorem zlr_xr {T : zT} {H k : Nat} {l : Int32} (hO : zOk H T) (hl : z_rg l) : zxr T.c (H + k) (zlr T k l) := by
  have hc := hO.c
  obtain ⟨hr, hh, e⟩ := hO.x.h
  refine ⟨fun b hb => ?_, fun b hb => ?_, fun b hb => ?_, ?_, by rw [zlr_22]; exact hl, ?_, ?_, ⟨hr + k, by omega, by rw [zlr_25, e, nI_add]⟩⟩
  · rw [zlr_o (by omega) (by omega)]; exact hO.x.g b hb
  · rw [zlr_o (by omega) (by omega)]; exact hO.x.t b hb
  · rw [zlr_o (by omega) (by omega)]; exact hO.x.p b hb
  · rw [zlr_o (by omega) (by omega)]; exact hO.x.s
  · rw [zlr_o (by omega) (by omega)]; exact hO.x.lg
  · rw [zlr_o (by omega) (by omega)]; exact hO.x.ov
theorem zlr_cr {T : zT} {k : Nat} {l : Int32} : zcr (zlr T k l) T.x := fun q hq => zlr_o (by omega) (by omega)
theorem z_rg_i {i : Nat} (h : i < 41) : z_rg (nI i - 20) := ⟨i, h, rfl⟩
theorem zgl_rg {T : zT} {H k i v : Nat} (hO : zOk H T) (hi : i < 41) (hv : v < 19) : z_rg (zgl T k i (nI v - 9)) := by
  have h := (zh1_xr (T := T) (w := nI v - 9) (zlr_xr (k := k) hO (z_rg_i hi)) ⟨v, hv, rfl⟩ hO.c).l
  unfold zh1 at h
  rw [if_neg (by decide), if_pos rfl] at h
  exact h
theorem zgl_e {T : zT} {k i : Nat} {w : Int32} : z_lb (nI i - 20) (z_pull (zst T (zlh T k i)) w (T.x 21)) = zgl T k i w := by
  unfold zgl zhl zst
  rw [← zlr_h, zlr_22, zlr_o (q := 21) (by decide) (by decide)]
theorem zcS.ln {I : Nat → Nat → Int32} {T : zT} {k : Nat} {l l2 : Int32} (hc : T.c ≤ 7) (h : zcS I 25 T.c (zlr T k l)) : zcS (z_set I 25 5 l2) 25 T.c (zlr T k l2) := by
  refine ⟨by rw [z_set_nk (by decide)]; exact h.cr, fun b hb => ?_, fun b hb => ?_, fun b hb => ?_, ?_, by rw [z_set_at, zlr_22], ?_, ?_, ?_⟩
  · rw [z_set_ne (by decide), h.g b hb, zlr_o (by omega) (by omega), zlr_o (by omega) (by omega)]
  · rw [z_set_ne (by decide), h.t b hb, zlr_o (by omega) (by omega), zlr_o (by omega) (by omega)]
  · rw [z_set_ne (by decide), h.p b hb, zlr_o (by omega) (by omega), zlr_o (by omega) (by omega)]
  · rw [z_set_nk (by decide), h.s, zlr_o (by omega) (by omega), zlr_o (by omega) (by omega)]
  · rw [z_set_nk (by decide), h.lg, zlr_o (by omega) (by omega), zlr_o (by omega) (by omega)]
  · rw [z_set_nk (by decide), h.ov, zlr_o (by omega) (by omega), zlr_o (by omega) (by omega)]
  · rw [z_set_nk (by decide), h.h, zlr_25, zlr_25]
theorem zcS.hr {I : Nat → Nat → Int32} {T : zT} {k : Nat} {l : Int32} (hc : T.c ≤ 7) (h : zcS I 25 T.c (zlr T k l)) : zcS (z_set I 25 8 (T.x 25 + nI k + 1)) 25 T.c (zlr T (k + 1) l) := by
  refine ⟨by rw [z_set_nk (by decide)]; exact h.cr, fun b hb => ?_, fun b hb => ?_, fun b hb => ?_, ?_, ?_, ?_, ?_, ?_⟩
  · rw [z_set_ne (by decide), h.g b hb, zlr_o (by omega) (by omega), zlr_o (by omega) (by omega)]
  · rw [z_set_ne (by decide), h.t b hb, zlr_o (by omega) (by omega), zlr_o (by omega) (by omega)]
  · rw [z_set_ne (by decide), h.p b hb, zlr_o (by omega) (by omega), zlr_o (by omega) (by omega)]
  · rw [z_set_nk (by decide), h.s, zlr_o (by omega) (by omega), zlr_o (by omega) (by omega)]
  · rw [z_set_nk (by decide), h.l, zlr_22, zlr_22]
  · rw [z_set_nk (by decide), h.lg, zlr_o (by omega) (by omega), zlr_o (by omega) (by omega)]
  · rw [z_set_nk (by decide), h.ov, zlr_o (by omega) (by omega), zlr_o (by omega) (by omega)]
  · rw [z_set_at, zlr_25, Int32.add_assoc, show nI k + 1 = nI (k + 1) from nI_1 k]
/-- within an hour, behind the leans below i -/
def zgV (T : zT) (p k a b : Nat) (I : Nat → Nat → Int32) (i : Nat) (J : Nat → Nat → Int32) : Prop :=
  (∀ j, i ≤ j → j < 41 → J a j = nI (zgwi T p k j)) ∧ (∀ j, j < i → J a j = 0) ∧ (∀ j, j < 41 → J b j = nI (znsum (fun q => zgwi T p k q * zgg T p k j q) i)) ∧ J 102 2 = nI (10 * zgu T p k + znsum (fun q => zgwi T p k q * zgh T p k q) i) ∧ (∃ l, zcS J 25 T.c (zlr T k l)) ∧ ∀ c, c ≠ a → c ≠ b → c ≠ 102 → c ≠ 25 → J c = I c
theorem zgV_0 {T : zT} {p k a b i : Nat} {I J : Nat → Nat → Int32} (h : zgV T p k a b I i J) (hi : i < 41) (h0 : zgwi T p k i = 0) : zgV T p k a b I (i + 1) J := by
  obtain ⟨h1, h2, h3, h4, h5, h6⟩ := h
  refine ⟨fun j hj => h1 j (by omega), fun j hj => ?_, fun j hj => ?_, ?_, h5, h6⟩
  · by_cases e : j = i
    · rw [e, h1 i (Nat.le_refl _) hi, h0, nI_0]
    · exact h2 j (by omega)
  · rw [h3 j hj, znsum, h0, Nat.zero_mul, Nat.add_zero]
  · rw [h4, znsum, h0, Nat.zero_mul, Nat.add_zero]
theorem zgV_s {T : zT} {p k a b i : Nat} {I J : Nat → Nat → Int32} (hab : a = 103 ∧ b = 104 ∨ a = 104 ∧ b = 103) (hc : T.c ≤ 7) (h : zgV T p k a b I i J) (hi : i < 41) : zgV T p k a b I (i + 1) (z_set (zgoM (zgoM (z_set J 25 5 (nI i - 20)) b (zgl T k i 9) (nI (zgwi T p k i * p))) b (zgl T k i (-9)) (nI (zgwi T p k i * (10 - p)))) a i 0) := by
  obtain ⟨h1, h2, h3, h4, ⟨l, h5⟩, h6⟩ := h
  have hb : b ≠ 102 := by omega
  have ha : a ≠ 102 := by omega
  have hne : a ≠ b := by omega
  have hba : b ≠ a := by omega
  have ha25 : a ≠ 25 := by omega
  have hb25 : b ≠ 25 := by omega
  refine ⟨fun j hj hj2 => ?_, fun j hj => ?_, fun j hj => ?_, ?_, ⟨nI i - 20, ?_⟩, fun c c1 c2 c3 c4 => ?_⟩
  · rw [z_set_nk (by omega), zgoM_ne hne ha, zgoM_ne hne ha, z_set_ne ha25]; exact h1 j (by omega) hj2
  · by_cases e : j = i
    · rw [e, z_set_at]
    · rw [z_set_nk e, zgoM_ne hne ha, zgoM_ne hne ha, z_set_ne ha25]; exact h2 j (by omega)
  · rw [z_set_ne hba, zgoM_b hb, zgoM_b hb, z_set_ne hb25, h3 j hj, znsum]
    unfold zgg
    by_cases e1 : z_ab (zgl T k i 9) < 15 ∧ (zgl T k i 9 + 20).toNatClampNeg = j
    · by_cases e2 : z_ab (zgl T k i (-9)) < 15 ∧ (zgl T k i (-9) + 20).toNatClampNeg = j
      · rw [if_pos e1, if_pos e2, if_pos e1, if_pos e2, nI_add, nI_add, Nat.mul_add, Nat.add_assoc]
      · rw [if_pos e1, if_neg e2, if_pos e1, if_neg e2, Int32.add_zero, nI_add, Nat.add_zero]
    · by_cases e2 : z_ab (zgl T k i (-9)) < 15 ∧ (zgl T k i (-9) + 20).toNatClampNeg = j
      · rw [if_neg e1, if_pos e2, if_neg e1, if_pos e2, Int32.add_zero, nI_add, Nat.zero_add]
      · rw [if_neg e1, if_neg e2, if_neg e1, if_neg e2, Int32.add_zero, Int32.add_zero, Nat.zero_add, Nat.mul_zero, Nat.add_zero]
  · rw [z_set_ne (fun g => ha g.symm), zgoM_o hb, zgoM_o hb, z_set_ne (by decide), h4, znsum]
    unfold zgh
    by_cases e1 : z_ab (zgl T k i 9) < 15
    · by_cases e2 : z_ab (zgl T k i (-9)) < 15
      · rw [if_pos e1, if_pos e2, if_pos e1, if_pos e2, Int32.add_zero, Int32.add_zero, Nat.zero_add, Nat.mul_zero, Nat.add_zero]
      · rw [if_pos e1, if_neg e2, if_pos e1, if_neg e2, Int32.add_zero, nI_add, Nat.zero_add, Nat.add_assoc]
    · by_cases e2 : z_ab (zgl T k i (-9)) < 15
      · rw [if_neg e1, if_pos e2, if_neg e1, if_pos e2, Int32.add_zero, nI_add, Nat.add_zero, Nat.add_assoc]
      · rw [if_neg e1, if_neg e2, if_neg e1, if_neg e2, nI_add, nI_add, Nat.mul_add, Nat.add_assoc, Nat.add_assoc]
  · have hl := h5.ln (l2 := nI i - 20) hc
    have e : ∀ c, c = 25 ∨ c = 26 ∨ c = 27 ∨ c = 28 → z_set (zgoM (zgoM (z_set J 25 5 (nI i - 20)) b (zgl T k i 9) (nI (zgwi T p k i * p))) b (zgl T k i (-9)) (nI (zgwi T p k i * (10 - p)))) a i 0 c = z_set J 25 5 (nI i - 20) c := fun c hc => by
      rw [z_set_ne (by omega), zgoM_ne (by omega) (by omega), zgoM_ne (by omega) (by omega)]
    exact hl.cg (e 25 (by omega)) (e 26 (by omega)) (e 27 (by omega)) (e 28 (by omega))
  · rw [z_set_ne c1, zgoM_ne c2 c3, zgoM_ne c2 c3, z_set_ne c4]; exact h6 c c1 c2 c3 c4
theorem zg_10m {p : Nat} (hp : p ≤ 10) : (10 : Int32) - nI p = nI (10 - p) := by
  rcases (by omega : p = 0 ∨ p = 1 ∨ p = 2 ∨ p = 3 ∨ p = 4 ∨ p = 5 ∨ p = 6 ∨ p = 7 ∨ p = 8 ∨ p = 9 ∨ p = 10) with rfl | rfl | rfl | rfl | rfl | rfl | rfl | rfl | rfl | rfl | rfl <;> decide
/-- behind an hour -/
def zpGv (n : Nat) (sl : Nat × Nat) (kd : Nat → Nat × Nat) (I : Nat → Nat → Int32) (L : Nat → Nat → Int64) (Rf : Nat → Nat → Option Nat) (T : zT) (p k a b : Nat) : Option Value → eb_S → Prop := fun r τ => r = none ∧ ∃ J R1 l, τ = (n, sl, kd, J, L, R1) ∧ (R1 102 0 = some b ∧ R1 102 1 = some a) ∧ (∀ c, c ≠ 102 → R1 c = Rf c) ∧ zcS J 25 T.c (zlr T (k + 1) l) ∧ (∀ j, j < 41 → J b j = nI (zgwi T p (k + 1) j)) ∧ (∀ j, j < 41 → J a j = 0) ∧ J 102 2 = nI (zgu T p (k + 1)) ∧ ∀ c, c ≠ a → c ≠ b → c ≠ 102 → c ≠ 25 → J c = I c
theorem zpGv_ok {n : Nat} {sl : Nat × Nat} {kd : Nat → Nat × Nat} {I : Nat → Nat → Int32} {L : Nat → Nat → Int64} {Rf : Nat → Nat → Option Nat} {T : zT} {p k a b : Nat} {l : List (Nat × Value)} {rest : List Value} : ∀ r1 σ1, zpGv n sl kd I L Rf T p k a b r1 σ1 → σ1.1 = n ∨ ((∀ q ∈ l, eb_okv n q.2) ∧ ∀ v ∈ rest, eb_okv n v) := fun _ _ h => Or.inl (by obtain ⟨_, _, _, _, h, _⟩ := h; rw [h])
theorem va_102 {R : Nat → Nat → Option Nat} {a b : Nat} : va_up (va_up R 102 (va_up (R 102) 0 (some b))) 102 (va_up (va_up R 102 (va_up (R 102) 0 (some b)) 102) 1 (some a)) 102 0 = some b ∧ va_up (va_up R 102 (va_up (R 102) 0 (some b))) 102 (va_up (va_up R 102 (va_up (R 102) 0 (some b)) 102) 1 (some a)) 102 1 = some a ∧ ∀ c, c ≠ 102 → va_up (va_up R 102 (va_up (R 102) 0 (some b))) 102 (va_up (va_up R 102 (va_up (R 102) 0 (some b)) 102) 1 (some a)) c = R c := by
  refine ⟨by simp [va_up], by simp [va_up], fun c hc => ?_⟩
  simp [va_up, hc]
theorem zpt_n102 : ∀ p ∈ zpt, ¬ (p.1 = 102) := by decide +kernel
theorem zF.n102 {n : Nat} {kd : Nat → Nat × Nat} {Rf R1 : Nat → Nat → Option Nat} (h : zF n kd Rf) (hR : ∀ c, c ≠ 102 → R1 c = Rf c) : zF n kd R1 := by
  refine ⟨h.1, h.2.1, h.2.2.1, fun k p e => ?_⟩
  rw [hR p.1 (zpt_n102 p (List.mem_of_getElem? e))]; exact h.2.2.2 k p e
theorem k_go_in_104 {n : Nat} {sl : Nat × Nat} {kd : Nat → Nat × Nat} {I : Nat → Nat → Int32} {L : Nat → Nat → Int64} {Rf : Nat → Nat → Option Nat} (d : Nat) (hF : zF n kd Rf) (hRb : Rf 102 1 = some 104) {i : Nat} (hi : i < 41) (m : Int32) (hlt : z_ab (nI i - 20) < 15) : zq mX0_go (d + 2) [.ref 102, .int (nI i - 20), .int m] (n, sl, kd, I, L, Rf) (eb_v (n, sl, kd, zgoM I 104 (nI i - 20) m, L, Rf)) := by
  intro f B
  refine ez_meth pn_X.1 (Nat.le_of_ble_eq_true rfl) ?_
  show ez_P _ _ _ _ _ _ 0 [(0, .ref 102), (1, .int (nI i - 20)), (2, .int m)] [] (n, sl, kd, I, L, Rf) _
  refine ez_iload_n (i := 1) dX0_go_0 rfl rfl ?_
  refine ez_bipush (v := 20) dX0_go_1 (by decide) ?_
  refine ez_iadd dX0_go_3 ?_
  refine ez_topE (y := nI i) (Int32.sub_add_cancel _ _) ?_
  refine ez_istore_n (l' := [(3, .int (nI i)), (0, .ref 102), (1, .int (nI i - 20)), (2, .int m)]) dX0_go_4 rfl (by decide) rfl ?_
  refine ez_iload_n (i := 1) dX0_go_5 rfl rfl ?_
  refine ez_abs dX0_go_6 xmX0_51 (Nat.le_of_ble_eq_true rfl) ?_
  refine ez_topE (y := z_ab (nI i - 20)) rfl ?_
  refine ez_bipush (v := 15) dX0_go_9 (by decide) ?_
  refine ez_icmp_lt (tgt := 27) dX0_go_11 (by decide) (fun c1 => ?_) (fun c1 => absurd hlt c1)
  refine ez_iload_n (i := 3) dX0_go_27 rfl rfl ?_
  refine ez_iconst (v := 0) dX0_go_28 (by decide) ?_
  refine ez_bipush (v := 40) dX0_go_29 (by decide) ?_
  refine ez_callS (M1 := mX10_within) (rest := []) dX0_go_31 mlX0_57 msX10_within rfl (Nat.le_of_ble_eq_true rfl) rfl (zq_b1 ⟨nI_pos' (by omega), by rw [show (40 : Int32) = nI 40 by decide]; exact nI_le (by omega) (by decide)⟩ (zq_b (q_X10_within (d + 1) (nI i) 0 40) (n, sl, kd, I, L, Rf))) eb_rok ?_
  rintro _ _ ⟨rfl, rfl⟩
  show ez_P _ _ _ _ _ _ 34 [(3, .int (nI i)), (0, .ref 102), (1, .int (nI i - 20)), (2, .int m)] (.int 1 :: []) _ _
  refine ez_if_eq (tgt := 47) dX0_go_34 (by decide) (fun c2 => absurd c2 (by decide)) (fun c2 => ?_)
  refine ez_aload_n (i := 0) dX0_go_37 rfl rfl ?_
  refine ez_getR dX0_go_38 flX0_15 (hF.lt (by decide)) (hF.kc (by decide) rfl) hRb ?_
  refine ez_iload_n (i := 3) dX0_go_41 rfl rfl ?_
  refine ez_dup2 dX0_go_42 rfl rfl ?_
  refine ez_iaN (k := i) dX0_go_43 (hF.lt (by decide)) (hF.ka (by decide) rfl) (by omega) (by decide) ?_
  refine ez_iload_n (i := 2) dX0_go_44 rfl rfl ?_
  refine ez_iadd dX0_go_45 ?_
  refine ez_isN (k := i) dX0_go_46 (hF.lt (by decide)) (hF.lx (by decide)) (hF.ka (by decide) rfl) (by omega) (by decide) ?_
  refine ez_nmI (fun I3 hI3 => ?_)
  refine ez_vret dX0_go_47 rfl ?_
  exact ⟨by rw [hI3]; unfold zgoM; rw [if_pos hlt, Int32.sub_add_cancel, nI_clamp (by omega)], rfl⟩
theorem k_go_ov_104 {n : Nat} {sl : Nat × Nat} {kd : Nat → Nat × Nat} {I : Nat → Nat → Int32} {L : Nat → Nat → Int64} {Rf : Nat → Nat → Option Nat} (d : Nat) (hF : zF n kd Rf) (hRb : Rf 102 1 = some 104) {i : Nat} (hi : i < 41) (m : Int32) (hlt : ¬ z_ab (nI i - 20) < 15) : zq mX0_go (d + 2) [.ref 102, .int (nI i - 20), .int m] (n, sl, kd, I, L, Rf) (eb_v (n, sl, kd, zgoM I 104 (nI i - 20) m, L, Rf)) := by
  intro f B
  refine ez_meth pn_X.1 (Nat.le_of_ble_eq_true rfl) ?_
  show ez_P _ _ _ _ _ _ 0 [(0, .ref 102), (1, .int (nI i - 20)), (2, .int m)] [] (n, sl, kd, I, L, Rf) _
  refine ez_iload_n (i := 1) dX0_go_0 rfl rfl ?_
  refine ez_bipush (v := 20) dX0_go_1 (by decide) ?_
  refine ez_iadd dX0_go_3 ?_
  refine ez_topE (y := nI i) (Int32.sub_add_cancel _ _) ?_
  refine ez_istore_n (l' := [(3, .int (nI i)), (0, .ref 102), (1, .int (nI i - 20)), (2, .int m)]) dX0_go_4 rfl (by decide) rfl ?_
  refine ez_iload_n (i := 1) dX0_go_5 rfl rfl ?_
  refine ez_abs dX0_go_6 xmX0_51 (Nat.le_of_ble_eq_true rfl) ?_
  refine ez_topE (y := z_ab (nI i - 20)) rfl ?_
  refine ez_bipush (v := 15) dX0_go_9 (by decide) ?_
  refine ez_icmp_lt (tgt := 27) dX0_go_11 (by decide) (fun c1 => absurd c1 hlt) (fun c1 => ?_)
  refine ez_aload_n (i := 0) dX0_go_14 rfl rfl ?_
  refine ez_dup dX0_go_15 rfl ?_
  refine ez_getI dX0_go_16 flX0_18 (hF.lt (by decide)) (hF.kc (by decide) rfl) ?_
  refine ez_iload_n (i := 2) dX0_go_19 rfl rfl ?_
  refine ez_iadd dX0_go_20 ?_
  refine ez_pI dX0_go_21 plX0_18 (hF.lt (by decide)) (hF.lx (by decide)) (hF.kc (by decide) rfl) rfl rfl ?_
  refine ez_nmI (fun I2 hI2 => ?_)
  refine ez_goto (tgt := 47) dX0_go_24 (by decide) ?_
  refine ez_vret dX0_go_47 rfl ?_
  exact ⟨by rw [hI2]; unfold zgoM; rw [if_neg hlt], rfl⟩
theorem k_go_104 {n : Nat} {sl : Nat × Nat} {kd : Nat → Nat × Nat} {I : Nat → Nat → Int32} {L : Nat → Nat → Int64} {Rf : Nat → Nat → Option Nat} (d : Nat) (hF : zF n kd Rf) (hRb : Rf 102 1 = some 104) {l : Int32} (hl : z_rg l) (m : Int32) : zq mX0_go (d + 2) [.ref 102, .int l, .int m] (n, sl, kd, I, L, Rf) (eb_v (n, sl, kd, zgoM I 104 l m, L, Rf)) := by
  obtain ⟨i, hi, rfl⟩ := hl
  by_cases h : z_ab (nI i - 20) < 15
  · exact k_go_in_104 d hF hRb hi m h
  · exact k_go_ov_104 d hF hRb hi m h
theorem k_lhg_103 {n : Nat} {sl : Nat × Nat} {kd : Nat → Nat × Nat} {I : Nat → Nat → Int32} {L : Nat → Nat → Int64} {Rf : Nat → Nat → Option Nat} (d : Nat) {T : zT} {H : Nat} (hC : zC n kd I L Rf T) (hO : zOk H T) (hH : H ≤ 1000000000) (hRa : Rf 102 0 = some 103) (hRb : Rf 102 1 = some 104) {k p0 : Nat} (hk : k < 8) (hp : p0 ≤ 10) {l : Int32} (hg : zcS I 25 T.c (zlr T k l)) (hA : ∀ j, j < 41 → I 103 j = nI (zgwi T p0 k j)) (hB : ∀ j, j < 41 → I 104 j = 0) (hov : I 102 2 = nI (zgu T p0 k)) (f : Nat) : ez_Q f (zBm T T.x) f (fun C => C = zBm T T.x) mX0_letHourGo (d + 20) [.ref 102, .ref 5, .ref 25, .int (nI p0)] (n, sl, kd, I, L, Rf) (zpGv n sl kd I L Rf T p0 k 103 104) := by
  refine ez_meth pn_X.1 (Nat.le_of_ble_eq_true rfl) ?_
  have hF := hC.F; have hc7 := hO.c
  show ez_P _ _ _ _ _ _ 0 [(0, .ref 102), (1, .ref 5), (2, .ref 25), (3, .int (nI p0))] [] (n, sl, kd, I, L, Rf) _
  refine ez_aload_n (i := 0) dX0_letHourGo_0 rfl rfl ?_
  refine ez_dup dX0_letHourGo_1 rfl ?_
  refine ez_getI dX0_letHourGo_2 flX0_18 (hF.lt (by decide)) (hF.kc (by decide) rfl) ?_
  refine ez_bipush (v := 10) dX0_letHourGo_5 (by decide) ?_
  refine ez_imul dX0_letHourGo_7 ?_
  refine ez_topE (y := nI (10 * zgu T p0 k)) (by rw [hov, show (10 : Int32) = nI 10 by decide, nI_mul, Nat.mul_comm]) ?_
  refine ez_pI dX0_letHourGo_8 plX0_18 (hF.lt (by decide)) (hF.lx (by decide)) (hF.kc (by decide) rfl) rfl rfl ?_
  refine ez_nmI (fun I1 hI1 => ?_)
  refine ez_iconst (v := 0) dX0_letHourGo_11 (by decide) ?_
  refine ez_istore (l' := [(4, .int 0), (0, .ref 102), (1, .ref 5), (2, .ref 25), (3, .int (nI p0))]) dX0_letHourGo_12 (by decide) rfl ?_
  refine ez_sub (l' := [(4, .int 0), (3, .int (nI p0)), (2, .ref 25), (1, .ref 5), (0, .ref 102)]) [0, 4, 3, 2, 1] rfl ?_
  refine ez_eq (l2 := [(4, .int (nI 0)), (3, .int (nI p0)), (2, .ref 25), (1, .ref 5), (0, .ref 102)]) (σ2 := (n, sl, kd, I1, L, Rf)) rfl (by rw [nI_0]) rfl rfl ?_
  have hV0 : zgV T p0 k 103 104 I 0 I1 := ⟨fun j _ hj => by rw [hI1, z_set_ne (by decide)]; exact hA j hj, fun j hj => absurd hj (Nat.not_lt_zero j), fun j hj => by rw [hI1, z_set_ne (by decide), hB j hj]; exact nI_0.symm, by rw [hI1, z_set_at]; rfl, ⟨l, by rw [hI1]; exact hg.cg (z_set_ne (by decide)) (z_set_ne (by decide)) (z_set_ne (by decide)) (z_set_ne (by decide))⟩, fun c _ _ c3 _ => by rw [hI1, z_set_ne c3]⟩
  refine ez_for 41 (fun i (z : Nat → Nat → Int32) => ([(4, .int (nI i)), (3, .int (nI p0)), (2, .ref 25), (1, .ref 5), (0, .ref 102)], (n, sl, kd, z, L, Rf))) (fun i z => zgV T p0 k 103 104 I i z) ?_ ?_ 41 0 I1 rfl hV0
  · rintro i Ia hi hV ih
    replace hV : zgV T p0 k 103 104 I i Ia := hV
    obtain ⟨lq, hlq⟩ := hV.2.2.2.2.1
    have hC2 : zC n kd (z_set Ia 25 5 (nI i - 20)) L Rf T := hC.fr hF rfl (fun c hc => by rw [z_set_ne (by omega)]; exact hV.2.2.2.2.2 c (by omega) (by omega) (by omega) (by omega)) rfl (fun _ _ => rfl)
    have hs2 : zcS (z_set Ia 25 5 (nI i - 20)) 25 T.c (zlr T k (nI i - 20)) := hlq.ln hc7
    have hw8 := zgwi_le (T := T) hp k i; have h10k := zg_10 k (by omega)
    show ez_P _ _ _ _ _ _ 14 [(4, .int (nI i)), (3, .int (nI p0)), (2, .ref 25), (1, .ref 5), (0, .ref 102)] [] (n, sl, kd, Ia, L, Rf) _
    refine ez_iload (i := 4) dX0_letHourGo_14 rfl ?_
    refine ez_bipush (v := 41) dX0_letHourGo_16 (by decide) ?_
    refine ez_icmp_ge (tgt := 126) dX0_letHourGo_18 (by decide) (fun c2 => absurd c2 (nI_ge (b := 41) hi (by decide))) (fun c2 => ?_)
    refine ez_aload_n (i := 0) dX0_letHourGo_21 rfl rfl ?_
    refine ez_getR dX0_letHourGo_22 flX0_11 (hF.lt (by decide)) (hF.kc (by decide) rfl) hRa ?_
    refine ez_iload (i := 4) dX0_letHourGo_25 rfl ?_
    refine ez_iaN (k := i) dX0_letHourGo_27 (hF.lt (by decide)) (hF.ka (by decide) rfl) (by omega) (by decide) ?_
    refine ez_topE (y := nI (zgwi T p0 k i)) (hV.1 i (Nat.le_refl _) hi) ?_
    refine ez_if_le (tgt := 120) dX0_letHourGo_28 (by decide) (fun c3 => ?_) (fun c3 => ?_)
    · skip
      refine ez_iinc (v := (nI (i + 1))) (l' := [(4, .int ((nI (i + 1)))), (3, .int (nI p0)), (2, .ref 25), (1, .ref 5), (0, .ref 102)]) dX0_letHourGo_120 rfl (nI_1 _) (by decide) rfl ?_
      refine ez_goto (tgt := 14) dX0_letHourGo_123 (by decide) ?_
      exact ez_eq (l2 := [(4, .int (nI (i + 1))), (3, .int (nI p0)), (2, .ref 25), (1, .ref 5), (0, .ref 102)]) rfl rfl rfl rfl (ih Ia (zgV_0 hV hi (Nat.le_zero.mp (nI_leN c3 (by omega)))))
    · skip
      refine ez_aload_n (i := 2) dX0_letHourGo_31 rfl rfl ?_
      refine ez_iload (i := 4) dX0_letHourGo_32 rfl ?_
      refine ez_bipush (v := 20) dX0_letHourGo_34 (by decide) ?_
      refine ez_isub dX0_letHourGo_36 ?_
      refine ez_pI dX0_letHourGo_37 plX0_22 (hF.lt (by decide)) (hF.lx (by decide)) (hF.kc (by decide) rfl) rfl rfl ?_
      refine ez_nmI (fun I4 hI4 => ?_)
      rw [← hI4] at hC2 hs2
      refine ez_aload_n (i := 1) dX0_letHourGo_40 rfl rfl ?_
      refine ez_aload_n (i := 2) dX0_letHourGo_41 rfl rfl ?_
      refine ez_callVm (M1 := mX6_ballastInHours) (rest := []) dX0_letHourGo_42 mlX0_27 mvX6_ballastInHours rfl (hF.lt (by decide)) (hF.kc (by decide) rfl) (Nat.le_of_ble_eq_true rfl) rfl (k_bih (I := I4) (L := L) (d + 15) hC2 hO (j := 25) (by decide) hs2 (zlr_xr (k := k) hO (z_rg_i hi)) (by omega) zlr_cr f) eb_rok ?_
      rintro _ _ _ rfl ⟨rfl, rfl⟩
      show ez_P _ _ _ _ _ _ 45 [(4, .int (nI i)), (3, .int (nI p0)), (2, .ref 25), (1, .ref 5), (0, .ref 102)] (.int (zst T (zlh T k i)) :: []) (n, sl, kd, I4, L, Rf) _
      refine ez_istore (l' := [(5, .int (zst T (zlh T k i))), (4, .int (nI i)), (3, .int (nI p0)), (2, .ref 25), (1, .ref 5), (0, .ref 102)]) dX0_letHourGo_45 (by decide) rfl ?_
      refine ez_aload_n (i := 0) dX0_letHourGo_47 rfl rfl ?_
      refine ez_aload_n (i := 2) dX0_letHourGo_48 rfl rfl ?_
      refine ez_getI dX0_letHourGo_49 flX0_22 (hF.lt (by decide)) (hF.kc (by decide) rfl) ?_
      refine ez_topE (y := (nI i) - 20) (by rw [hI4, z_set_at]) ?_
      refine ez_iload (i := 5) dX0_letHourGo_52 rfl ?_
      refine ez_bipush (v := 9) dX0_letHourGo_54 (by decide) ?_
      refine ez_aload_n (i := 2) dX0_letHourGo_56 rfl rfl ?_
      refine ez_getI dX0_letHourGo_57 flX0_33 (hF.lt (by decide)) (hF.kc (by decide) rfl) ?_
      refine ez_topE (y := Ia 25 4) (by rw [hI4, z_set_nk (by decide)]) ?_
      refine ez_topE (y := T.x 21) (hlq.s.trans (zlr_o (by decide) (by decide))) ?_
      refine ez_callS (M1 := mX10_pullOf) (rest := [.int ((nI i) - 20), .ref 102]) dX0_letHourGo_60 mlX0_36 msX10_pullOf rfl (Nat.le_of_ble_eq_true rfl) rfl (zq_r (q_X10_pullOf (d + 18) (zst T (zlh T k i)) 9 (T.x 21)) (n, sl, kd, I4, L, Rf)) eb_rok ?_
      rintro _ _ ⟨rfl, rfl⟩
      show ez_P _ _ _ _ _ _ 63 [(5, .int (zst T (zlh T k i))), (4, .int (nI i)), (3, .int (nI p0)), (2, .ref 25), (1, .ref 5), (0, .ref 102)] (.int (z_pull (zst T (zlh T k i)) 9 (T.x 21)) :: [.int ((nI i) - 20), .ref 102]) _ _
      refine ez_callS (M1 := mX10_leanBy) (rest := [.ref 102]) dX0_letHourGo_63 mlX0_40 msX10_leanBy rfl (Nat.le_of_ble_eq_true rfl) rfl (zq_r (fun σ => q_X10_leanBy (σ := σ) (d + 18) ((nI i) - 20) (z_pull (zst T (zlh T k i)) 9 (T.x 21))) (n, sl, kd, I4, L, Rf)) eb_rok ?_
      rintro _ _ ⟨rfl, rfl⟩
      show ez_P _ _ _ _ _ _ 66 [(5, .int (zst T (zlh T k i))), (4, .int (nI i)), (3, .int (nI p0)), (2, .ref 25), (1, .ref 5), (0, .ref 102)] (.int (z_lb ((nI i) - 20) (z_pull (zst T (zlh T k i)) 9 (T.x 21))) :: [.ref 102]) _ _
      refine ez_topE (y := zgl T k i 9) zgl_e ?_
      refine ez_aload_n (i := 0) dX0_letHourGo_66 rfl rfl ?_
      refine ez_getR dX0_letHourGo_67 flX0_11 (hF.lt (by decide)) (hF.kc (by decide) rfl) hRa ?_
      refine ez_iload (i := 4) dX0_letHourGo_70 rfl ?_
      refine ez_iaN (k := i) dX0_letHourGo_72 (hF.lt (by decide)) (hF.ka (by decide) rfl) (by omega) (by decide) ?_
      refine ez_topE (y := Ia 103 i) (by rw [hI4, z_set_ne (by decide)]) ?_
      refine ez_topE (y := nI (zgwi T p0 k i)) (hV.1 i (Nat.le_refl _) hi) ?_
      refine ez_iload_n (i := 3) dX0_letHourGo_73 rfl rfl ?_
      refine ez_imul dX0_letHourGo_74 ?_
      refine ez_topE (y := nI ((zgwi T p0 k i) * p0)) (nI_mul _ _) ?_
      refine ez_callV (M1 := mX0_go) (rest := []) dX0_letHourGo_75 mlX0_44 mvX0_go rfl (hF.lt (by decide)) (hF.kc (by decide) rfl) (Nat.le_of_ble_eq_true rfl) rfl (k_go_104 (I := I4) (L := L) (d + 17) hF hRb (zgl_rg (v := 18) hO hi (by decide)) (nI ((zgwi T p0 k i) * p0))) (eb_vok rfl) ?_
      rintro _ _ ⟨rfl, rfl⟩
      show ez_P _ _ _ _ _ _ 78 [(5, .int (zst T (zlh T k i))), (4, .int (nI i)), (3, .int (nI p0)), (2, .ref 25), (1, .ref 5), (0, .ref 102)] [] (n, sl, kd, (zgoM I4 104 (zgl T k i 9) (nI ((zgwi T p0 k i) * p0))), L, Rf) _
      refine ez_nmI (fun I5 hI5 => ?_)
      refine ez_aload_n (i := 0) dX0_letHourGo_78 rfl rfl ?_
      refine ez_aload_n (i := 2) dX0_letHourGo_79 rfl rfl ?_
      refine ez_getI dX0_letHourGo_80 flX0_22 (hF.lt (by decide)) (hF.kc (by decide) rfl) ?_
      refine ez_topE (y := (nI i) - 20) (by rw [hI5, zgoM_ne (by decide) (by decide), hI4, z_set_at]) ?_
      refine ez_iload (i := 5) dX0_letHourGo_83 rfl ?_
      refine ez_bipush (v := (-9)) dX0_letHourGo_85 (by decide) ?_
      refine ez_aload_n (i := 2) dX0_letHourGo_87 rfl rfl ?_
      refine ez_getI dX0_letHourGo_88 flX0_33 (hF.lt (by decide)) (hF.kc (by decide) rfl) ?_
      refine ez_topE (y := Ia 25 4) (by rw [hI5, zgoM_ne (by decide) (by decide), hI4, z_set_nk (by decide)]) ?_
      refine ez_topE (y := T.x 21) (hlq.s.trans (zlr_o (by decide) (by decide))) ?_
      refine ez_callS (M1 := mX10_pullOf) (rest := [.int ((nI i) - 20), .ref 102]) dX0_letHourGo_91 mlX0_36 msX10_pullOf rfl (Nat.le_of_ble_eq_true rfl) rfl (zq_r (q_X10_pullOf (d + 18) (zst T (zlh T k i)) (-9) (T.x 21)) (n, sl, kd, I5, L, Rf)) eb_rok ?_
      rintro _ _ ⟨rfl, rfl⟩
      show ez_P _ _ _ _ _ _ 94 [(5, .int (zst T (zlh T k i))), (4, .int (nI i)), (3, .int (nI p0)), (2, .ref 25), (1, .ref 5), (0, .ref 102)] (.int (z_pull (zst T (zlh T k i)) (-9) (T.x 21)) :: [.int ((nI i) - 20), .ref 102]) _ _
      refine ez_callS (M1 := mX10_leanBy) (rest := [.ref 102]) dX0_letHourGo_94 mlX0_40 msX10_leanBy rfl (Nat.le_of_ble_eq_true rfl) rfl (zq_r (fun σ => q_X10_leanBy (σ := σ) (d + 18) ((nI i) - 20) (z_pull (zst T (zlh T k i)) (-9) (T.x 21))) (n, sl, kd, I5, L, Rf)) eb_rok ?_
      rintro _ _ ⟨rfl, rfl⟩
      show ez_P _ _ _ _ _ _ 97 [(5, .int (zst T (zlh T k i))), (4, .int (nI i)), (3, .int (nI p0)), (2, .ref 25), (1, .ref 5), (0, .ref 102)] (.int (z_lb ((nI i) - 20) (z_pull (zst T (zlh T k i)) (-9) (T.x 21))) :: [.ref 102]) _ _
      refine ez_topE (y := zgl T k i (-9)) zgl_e ?_
      refine ez_aload_n (i := 0) dX0_letHourGo_97 rfl rfl ?_
      refine ez_getR dX0_letHourGo_98 flX0_11 (hF.lt (by decide)) (hF.kc (by decide) rfl) hRa ?_
      refine ez_iload (i := 4) dX0_letHourGo_101 rfl ?_
      refine ez_iaN (k := i) dX0_letHourGo_103 (hF.lt (by decide)) (hF.ka (by decide) rfl) (by omega) (by decide) ?_
      refine ez_topE (y := Ia 103 i) (by rw [hI5, zgoM_ne (by decide) (by decide), hI4, z_set_ne (by decide)]) ?_
      refine ez_topE (y := nI (zgwi T p0 k i)) (hV.1 i (Nat.le_refl _) hi) ?_
      refine ez_bipush (v := 10) dX0_letHourGo_104 (by decide) ?_
      refine ez_iload_n (i := 3) dX0_letHourGo_106 rfl rfl ?_
      refine ez_isub dX0_letHourGo_107 ?_
      refine ez_topE (y := nI (10 - p0)) (zg_10m hp) ?_
      refine ez_imul dX0_letHourGo_108 ?_
      refine ez_topE (y := nI ((zgwi T p0 k i) * (10 - p0))) (nI_mul _ _) ?_
      refine ez_callV (M1 := mX0_go) (rest := []) dX0_letHourGo_109 mlX0_44 mvX0_go rfl (hF.lt (by decide)) (hF.kc (by decide) rfl) (Nat.le_of_ble_eq_true rfl) rfl (k_go_104 (I := I5) (L := L) (d + 17) hF hRb (zgl_rg (v := 0) hO hi (by decide)) (nI ((zgwi T p0 k i) * (10 - p0)))) (eb_vok rfl) ?_
      rintro _ _ ⟨rfl, rfl⟩
      show ez_P _ _ _ _ _ _ 112 [(5, .int (zst T (zlh T k i))), (4, .int (nI i)), (3, .int (nI p0)), (2, .ref 25), (1, .ref 5), (0, .ref 102)] [] (n, sl, kd, (zgoM I5 104 (zgl T k i (-9)) (nI ((zgwi T p0 k i) * (10 - p0)))), L, Rf) _
      refine ez_nmI (fun I6 hI6 => ?_)
      refine ez_aload_n (i := 0) dX0_letHourGo_112 rfl rfl ?_
      refine ez_getR dX0_letHourGo_113 flX0_11 (hF.lt (by decide)) (hF.kc (by decide) rfl) hRa ?_
      refine ez_iload (i := 4) dX0_letHourGo_116 rfl ?_
      refine ez_iconst (v := 0) dX0_letHourGo_118 (by decide) ?_
      refine ez_isN (k := i) dX0_letHourGo_119 (hF.lt (by decide)) (hF.lx (by decide)) (hF.ka (by decide) rfl) (by omega) (by decide) ?_
      refine ez_nmI (fun I7 hI7 => ?_)
      refine ez_iinc (v := (nI (i + 1))) (l' := [(4, .int ((nI (i + 1)))), (5, .int (zst T (zlh T k i))), (3, .int (nI p0)), (2, .ref 25), (1, .ref 5), (0, .ref 102)]) dX0_letHourGo_120 rfl (nI_1 _) (by decide) rfl ?_
      refine ez_goto (tgt := 14) dX0_letHourGo_123 (by decide) ?_
      refine ez_sub (l' := [(4, .int ((nI (i + 1)))), (3, .int (nI p0)), (2, .ref 25), (1, .ref 5), (0, .ref 102)]) [0, 2, 3, 4, 5] rfl ?_
      exact ez_eq (l2 := [(4, .int (nI (i + 1))), (3, .int (nI p0)), (2, .ref 25), (1, .ref 5), (0, .ref 102)]) rfl rfl rfl (by rw [hI7, hI6, hI5, hI4]) (ih _ (zgV_s (by omega) hc7 hV hi))
  · rintro Ia hV
    show ez_P _ _ _ _ _ _ 14 [(4, .int (nI 41)), (3, .int (nI p0)), (2, .ref 25), (1, .ref 5), (0, .ref 102)] [] (n, sl, kd, Ia, L, Rf) _
    refine ez_iload (i := 4) dX0_letHourGo_14 rfl ?_
    refine ez_bipush (v := 41) dX0_letHourGo_16 (by decide) ?_
    refine ez_icmp_ge (tgt := 126) dX0_letHourGo_18 (by decide) (fun c8 => ?_) (fun c8 => absurd (by decide) c8)
    obtain ⟨lq, hle⟩ := hV.2.2.2.2.1
    refine ez_aload_n (i := 0) dX0_letHourGo_126 rfl rfl ?_
    refine ez_getR dX0_letHourGo_127 flX0_11 (hF.lt (by decide)) (hF.kc (by decide) rfl) hRa ?_
    refine ez_astore (l' := [(4, .ref 103), (3, .int (nI p0)), (2, .ref 25), (1, .ref 5), (0, .ref 102)]) dX0_letHourGo_130 (by decide) rfl ?_
    refine ez_aload_n (i := 0) dX0_letHourGo_132 rfl rfl ?_
    refine ez_aload_n (i := 0) dX0_letHourGo_133 rfl rfl ?_
    refine ez_getR dX0_letHourGo_134 flX0_15 (hF.lt (by decide)) (hF.kc (by decide) rfl) hRb ?_
    refine ez_putR dX0_letHourGo_137 plX0_11 (fun h => by cases h) (hF.lt (by decide)) (hF.kc (by decide) rfl) (Or.inl (hF.lt (by decide))) ?_
    refine ez_nmR (fun R9 hR9 => ?_)
    refine ez_aload_n (i := 0) dX0_letHourGo_140 rfl rfl ?_
    refine ez_aload (i := 4) dX0_letHourGo_141 rfl ?_
    refine ez_putR dX0_letHourGo_143 plX0_15 (fun h => by cases h) (hF.lt (by decide)) (hF.kc (by decide) rfl) (Or.inl (hF.lt (by decide))) ?_
    refine ez_nmR (fun R10 hR10 => ?_)
    refine ez_aload_n (i := 2) dX0_letHourGo_146 rfl rfl ?_
    refine ez_dup dX0_letHourGo_147 rfl ?_
    refine ez_getI dX0_letHourGo_148 flX0_48 (hF.lt (by decide)) (hF.kc (by decide) rfl) ?_
    refine ez_topE (y := T.x 25 + nI k) (hle.h.trans zlr_25) ?_
    refine ez_iconst (v := 1) dX0_letHourGo_151 (by decide) ?_
    refine ez_iadd dX0_letHourGo_152 ?_
    refine ez_pI dX0_letHourGo_153 plX0_48 (hF.lt (by decide)) (hF.lx (by decide)) (hF.kc (by decide) rfl) rfl rfl ?_
    refine ez_nmI (fun I11 hI11 => ?_)
    refine ez_vret dX0_letHourGo_156 rfl ?_
    have hRR : (R10 102 0 = some 104 ∧ R10 102 1 = some 103) ∧ ∀ c, c ≠ 102 → R10 c = Rf c := by rw [hR10, hR9]; exact ⟨⟨va_102.1, va_102.2.1⟩, va_102.2.2⟩
    exact ⟨rfl, _, _, lq, rfl, hRR.1, hRR.2, by rw [hI11]; exact hle.hr hc7, fun j hj => by rw [hI11, z_set_ne (by decide), hV.2.2.1 j hj, ← zgwi_s hO], fun j hj => by rw [hI11, z_set_ne (by decide)]; exact hV.2.1 j hj, by rw [hI11, z_set_ne (by decide), hV.2.2.2.1, ← zgu_s hO hp], fun c c1 c2 c3 c4 => by rw [hI11, z_set_ne c4]; exact hV.2.2.2.2.2 c c1 c2 c3 c4⟩
theorem k_go_in_103 {n : Nat} {sl : Nat × Nat} {kd : Nat → Nat × Nat} {I : Nat → Nat → Int32} {L : Nat → Nat → Int64} {Rf : Nat → Nat → Option Nat} (d : Nat) (hF : zF n kd Rf) (hRb : Rf 102 1 = some 103) {i : Nat} (hi : i < 41) (m : Int32) (hlt : z_ab (nI i - 20) < 15) : zq mX0_go (d + 2) [.ref 102, .int (nI i - 20), .int m] (n, sl, kd, I, L, Rf) (eb_v (n, sl, kd, zgoM I 103 (nI i - 20) m, L, Rf)) := by
  intro f B
  refine ez_meth pn_X.1 (Nat.le_of_ble_eq_true rfl) ?_
  show ez_P _ _ _ _ _ _ 0 [(0, .ref 102), (1, .int (nI i - 20)), (2, .int m)] [] (n, sl, kd, I, L, Rf) _
  refine ez_iload_n (i := 1) dX0_go_0 rfl rfl ?_
  refine ez_bipush (v := 20) dX0_go_1 (by decide) ?_
  refine ez_iadd dX0_go_3 ?_
  refine ez_topE (y := nI i) (Int32.sub_add_cancel _ _) ?_
  refine ez_istore_n (l' := [(3, .int (nI i)), (0, .ref 102), (1, .int (nI i - 20)), (2, .int m)]) dX0_go_4 rfl (by decide) rfl ?_
  refine ez_iload_n (i := 1) dX0_go_5 rfl rfl ?_
  refine ez_abs dX0_go_6 xmX0_51 (Nat.le_of_ble_eq_true rfl) ?_
  refine ez_topE (y := z_ab (nI i - 20)) rfl ?_
  refine ez_bipush (v := 15) dX0_go_9 (by decide) ?_
  refine ez_icmp_lt (tgt := 27) dX0_go_11 (by decide) (fun c1 => ?_) (fun c1 => absurd hlt c1)
  refine ez_iload_n (i := 3) dX0_go_27 rfl rfl ?_
  refine ez_iconst (v := 0) dX0_go_28 (by decide) ?_
  refine ez_bipush (v := 40) dX0_go_29 (by decide) ?_
  refine ez_callS (M1 := mX10_within) (rest := []) dX0_go_31 mlX0_57 msX10_within rfl (Nat.le_of_ble_eq_true rfl) rfl (zq_b1 ⟨nI_pos' (by omega), by rw [show (40 : Int32) = nI 40 by decide]; exact nI_le (by omega) (by decide)⟩ (zq_b (q_X10_within (d + 1) (nI i) 0 40) (n, sl, kd, I, L, Rf))) eb_rok ?_
  rintro _ _ ⟨rfl, rfl⟩
  show ez_P _ _ _ _ _ _ 34 [(3, .int (nI i)), (0, .ref 102), (1, .int (nI i - 20)), (2, .int m)] (.int 1 :: []) _ _
  refine ez_if_eq (tgt := 47) dX0_go_34 (by decide) (fun c2 => absurd c2 (by decide)) (fun c2 => ?_)
  refine ez_aload_n (i := 0) dX0_go_37 rfl rfl ?_
  refine ez_getR dX0_go_38 flX0_15 (hF.lt (by decide)) (hF.kc (by decide) rfl) hRb ?_
  refine ez_iload_n (i := 3) dX0_go_41 rfl rfl ?_
  refine ez_dup2 dX0_go_42 rfl rfl ?_
  refine ez_iaN (k := i) dX0_go_43 (hF.lt (by decide)) (hF.ka (by decide) rfl) (by omega) (by decide) ?_
  refine ez_iload_n (i := 2) dX0_go_44 rfl rfl ?_
  refine ez_iadd dX0_go_45 ?_
  refine ez_isN (k := i) dX0_go_46 (hF.lt (by decide)) (hF.lx (by decide)) (hF.ka (by decide) rfl) (by omega) (by decide) ?_
  refine ez_nmI (fun I3 hI3 => ?_)
  refine ez_vret dX0_go_47 rfl ?_
  exact ⟨by rw [hI3]; unfold zgoM; rw [if_pos hlt, Int32.sub_add_cancel, nI_clamp (by omega)], rfl⟩
theorem k_go_ov_103 {n : Nat} {sl : Nat × Nat} {kd : Nat → Nat × Nat} {I : Nat → Nat → Int32} {L : Nat → Nat → Int64} {Rf : Nat → Nat → Option Nat} (d : Nat) (hF : zF n kd Rf) (hRb : Rf 102 1 = some 103) {i : Nat} (hi : i < 41) (m : Int32) (hlt : ¬ z_ab (nI i - 20) < 15) : zq mX0_go (d + 2) [.ref 102, .int (nI i - 20), .int m] (n, sl, kd, I, L, Rf) (eb_v (n, sl, kd, zgoM I 103 (nI i - 20) m, L, Rf)) := by
  intro f B
  refine ez_meth pn_X.1 (Nat.le_of_ble_eq_true rfl) ?_
  show ez_P _ _ _ _ _ _ 0 [(0, .ref 102), (1, .int (nI i - 20)), (2, .int m)] [] (n, sl, kd, I, L, Rf) _
  refine ez_iload_n (i := 1) dX0_go_0 rfl rfl ?_
  refine ez_bipush (v := 20) dX0_go_1 (by decide) ?_
  refine ez_iadd dX0_go_3 ?_
  refine ez_topE (y := nI i) (Int32.sub_add_cancel _ _) ?_
  refine ez_istore_n (l' := [(3, .int (nI i)), (0, .ref 102), (1, .int (nI i - 20)), (2, .int m)]) dX0_go_4 rfl (by decide) rfl ?_
  refine ez_iload_n (i := 1) dX0_go_5 rfl rfl ?_
  refine ez_abs dX0_go_6 xmX0_51 (Nat.le_of_ble_eq_true rfl) ?_
  refine ez_topE (y := z_ab (nI i - 20)) rfl ?_
  refine ez_bipush (v := 15) dX0_go_9 (by decide) ?_
  refine ez_icmp_lt (tgt := 27) dX0_go_11 (by decide) (fun c1 => absurd c1 hlt) (fun c1 => ?_)
  refine ez_aload_n (i := 0) dX0_go_14 rfl rfl ?_
  refine ez_dup dX0_go_15 rfl ?_
  refine ez_getI dX0_go_16 flX0_18 (hF.lt (by decide)) (hF.kc (by decide) rfl) ?_
  refine ez_iload_n (i := 2) dX0_go_19 rfl rfl ?_
  refine ez_iadd dX0_go_20 ?_
  refine ez_pI dX0_go_21 plX0_18 (hF.lt (by decide)) (hF.lx (by decide)) (hF.kc (by decide) rfl) rfl rfl ?_
  refine ez_nmI (fun I2 hI2 => ?_)
  refine ez_goto (tgt := 47) dX0_go_24 (by decide) ?_
  refine ez_vret dX0_go_47 rfl ?_
  exact ⟨by rw [hI2]; unfold zgoM; rw [if_neg hlt], rfl⟩
theorem k_go_103 {n : Nat} {sl : Nat × Nat} {kd : Nat → Nat × Nat} {I : Nat → Nat → Int32} {L : Nat → Nat → Int64} {Rf : Nat → Nat → Option Nat} (d : Nat) (hF : zF n kd Rf) (hRb : Rf 102 1 = some 103) {l : Int32} (hl : z_rg l) (m : Int32) : zq mX0_go (d + 2) [.ref 102, .int l, .int m] (n, sl, kd, I, L, Rf) (eb_v (n, sl, kd, zgoM I 103 l m, L, Rf)) := by
  obtain ⟨i, hi, rfl⟩ := hl
  by_cases h : z_ab (nI i - 20) < 15
  · exact k_go_in_103 d hF hRb hi m h
  · exact k_go_ov_103 d hF hRb hi m h
theorem k_lhg_104 {n : Nat} {sl : Nat × Nat} {kd : Nat → Nat × Nat} {I : Nat → Nat → Int32} {L : Nat → Nat → Int64} {Rf : Nat → Nat → Option Nat} (d : Nat) {T : zT} {H : Nat} (hC : zC n kd I L Rf T) (hO : zOk H T) (hH : H ≤ 1000000000) (hRa : Rf 102 0 = some 104) (hRb : Rf 102 1 = some 103) {k p0 : Nat} (hk : k < 8) (hp : p0 ≤ 10) {l : Int32} (hg : zcS I 25 T.c (zlr T k l)) (hA : ∀ j, j < 41 → I 104 j = nI (zgwi T p0 k j)) (hB : ∀ j, j < 41 → I 103 j = 0) (hov : I 102 2 = nI (zgu T p0 k)) (f : Nat) : ez_Q f (zBm T T.x) f (fun C => C = zBm T T.x) mX0_letHourGo (d + 20) [.ref 102, .ref 5, .ref 25, .int (nI p0)] (n, sl, kd, I, L, Rf) (zpGv n sl kd I L Rf T p0 k 104 103) := by
  refine ez_meth pn_X.1 (Nat.le_of_ble_eq_true rfl) ?_
  have hF := hC.F; have hc7 := hO.c
  show ez_P _ _ _ _ _ _ 0 [(0, .ref 102), (1, .ref 5), (2, .ref 25), (3, .int (nI p0))] [] (n, sl, kd, I, L, Rf) _
  refine ez_aload_n (i := 0) dX0_letHourGo_0 rfl rfl ?_
  refine ez_dup dX0_letHourGo_1 rfl ?_
  refine ez_getI dX0_letHourGo_2 flX0_18 (hF.lt (by decide)) (hF.kc (by decide) rfl) ?_
  refine ez_bipush (v := 10) dX0_letHourGo_5 (by decide) ?_
  refine ez_imul dX0_letHourGo_7 ?_
  refine ez_topE (y := nI (10 * zgu T p0 k)) (by rw [hov, show (10 : Int32) = nI 10 by decide, nI_mul, Nat.mul_comm]) ?_
  refine ez_pI dX0_letHourGo_8 plX0_18 (hF.lt (by decide)) (hF.lx (by decide)) (hF.kc (by decide) rfl) rfl rfl ?_
  refine ez_nmI (fun I1 hI1 => ?_)
  refine ez_iconst (v := 0) dX0_letHourGo_11 (by decide) ?_
  refine ez_istore (l' := [(4, .int 0), (0, .ref 102), (1, .ref 5), (2, .ref 25), (3, .int (nI p0))]) dX0_letHourGo_12 (by decide) rfl ?_
  refine ez_sub (l' := [(4, .int 0), (3, .int (nI p0)), (2, .ref 25), (1, .ref 5), (0, .ref 102)]) [0, 4, 3, 2, 1] rfl ?_
  refine ez_eq (l2 := [(4, .int (nI 0)), (3, .int (nI p0)), (2, .ref 25), (1, .ref 5), (0, .ref 102)]) (σ2 := (n, sl, kd, I1, L, Rf)) rfl (by rw [nI_0]) rfl rfl ?_
  have hV0 : zgV T p0 k 104 103 I 0 I1 := ⟨fun j _ hj => by rw [hI1, z_set_ne (by decide)]; exact hA j hj, fun j hj => absurd hj (Nat.not_lt_zero j), fun j hj => by rw [hI1, z_set_ne (by decide), hB j hj]; exact nI_0.symm, by rw [hI1, z_set_at]; rfl, ⟨l, by rw [hI1]; exact hg.cg (z_set_ne (by decide)) (z_set_ne (by decide)) (z_set_ne (by decide)) (z_set_ne (by decide))⟩, fun c _ _ c3 _ => by rw [hI1, z_set_ne c3]⟩
  refine ez_for 41 (fun i (z : Nat → Nat → Int32) => ([(4, .int (nI i)), (3, .int (nI p0)), (2, .ref 25), (1, .ref 5), (0, .ref 102)], (n, sl, kd, z, L, Rf))) (fun i z => zgV T p0 k 104 103 I i z) ?_ ?_ 41 0 I1 rfl hV0
  · rintro i Ia hi hV ih
    replace hV : zgV T p0 k 104 103 I i Ia := hV
    obtain ⟨lq, hlq⟩ := hV.2.2.2.2.1
    have hC2 : zC n kd (z_set Ia 25 5 (nI i - 20)) L Rf T := hC.fr hF rfl (fun c hc => by rw [z_set_ne (by omega)]; exact hV.2.2.2.2.2 c (by omega) (by omega) (by omega) (by omega)) rfl (fun _ _ => rfl)
    have hs2 : zcS (z_set Ia 25 5 (nI i - 20)) 25 T.c (zlr T k (nI i - 20)) := hlq.ln hc7
    have hw8 := zgwi_le (T := T) hp k i; have h10k := zg_10 k (by omega)
    show ez_P _ _ _ _ _ _ 14 [(4, .int (nI i)), (3, .int (nI p0)), (2, .ref 25), (1, .ref 5), (0, .ref 102)] [] (n, sl, kd, Ia, L, Rf) _
    refine ez_iload (i := 4) dX0_letHourGo_14 rfl ?_
    refine ez_bipush (v := 41) dX0_letHourGo_16 (by decide) ?_
    refine ez_icmp_ge (tgt := 126) dX0_letHourGo_18 (by decide) (fun c2 => absurd c2 (nI_ge (b := 41) hi (by decide))) (fun c2 => ?_)
    refine ez_aload_n (i := 0) dX0_letHourGo_21 rfl rfl ?_
    refine ez_getR dX0_letHourGo_22 flX0_11 (hF.lt (by decide)) (hF.kc (by decide) rfl) hRa ?_
    refine ez_iload (i := 4) dX0_letHourGo_25 rfl ?_
    refine ez_iaN (k := i) dX0_letHourGo_27 (hF.lt (by decide)) (hF.ka (by decide) rfl) (by omega) (by decide) ?_
    refine ez_topE (y := nI (zgwi T p0 k i)) (hV.1 i (Nat.le_refl _) hi) ?_
    refine ez_if_le (tgt := 120) dX0_letHourGo_28 (by decide) (fun c3 => ?_) (fun c3 => ?_)
    · skip
      refine ez_iinc (v := (nI (i + 1))) (l' := [(4, .int ((nI (i + 1)))), (3, .int (nI p0)), (2, .ref 25), (1, .ref 5), (0, .ref 102)]) dX0_letHourGo_120 rfl (nI_1 _) (by decide) rfl ?_
      refine ez_goto (tgt := 14) dX0_letHourGo_123 (by decide) ?_
      exact ez_eq (l2 := [(4, .int (nI (i + 1))), (3, .int (nI p0)), (2, .ref 25), (1, .ref 5), (0, .ref 102)]) rfl rfl rfl rfl (ih Ia (zgV_0 hV hi (Nat.le_zero.mp (nI_leN c3 (by omega)))))
    · skip
      refine ez_aload_n (i := 2) dX0_letHourGo_31 rfl rfl ?_
      refine ez_iload (i := 4) dX0_letHourGo_32 rfl ?_
      refine ez_bipush (v := 20) dX0_letHourGo_34 (by decide) ?_
      refine ez_isub dX0_letHourGo_36 ?_
      refine ez_pI dX0_letHourGo_37 plX0_22 (hF.lt (by decide)) (hF.lx (by decide)) (hF.kc (by decide) rfl) rfl rfl ?_
      refine ez_nmI (fun I4 hI4 => ?_)
      rw [← hI4] at hC2 hs2
      refine ez_aload_n (i := 1) dX0_letHourGo_40 rfl rfl ?_
      refine ez_aload_n (i := 2) dX0_letHourGo_41 rfl rfl ?_
      refine ez_callVm (M1 := mX6_ballastInHours) (rest := []) dX0_letHourGo_42 mlX0_27 mvX6_ballastInHours rfl (hF.lt (by decide)) (hF.kc (by decide) rfl) (Nat.le_of_ble_eq_true rfl) rfl (k_bih (I := I4) (L := L) (d + 15) hC2 hO (j := 25) (by decide) hs2 (zlr_xr (k := k) hO (z_rg_i hi)) (by omega) zlr_cr f) eb_rok ?_
      rintro _ _ _ rfl ⟨rfl, rfl⟩
      show ez_P _ _ _ _ _ _ 45 [(4, .int (nI i)), (3, .int (nI p0)), (2, .ref 25), (1, .ref 5), (0, .ref 102)] (.int (zst T (zlh T k i)) :: []) (n, sl, kd, I4, L, Rf) _
      refine ez_istore (l' := [(5, .int (zst T (zlh T k i))), (4, .int (nI i)), (3, .int (nI p0)), (2, .ref 25), (1, .ref 5), (0, .ref 102)]) dX0_letHourGo_45 (by decide) rfl ?_
      refine ez_aload_n (i := 0) dX0_letHourGo_47 rfl rfl ?_
      refine ez_aload_n (i := 2) dX0_letHourGo_48 rfl rfl ?_
      refine ez_getI dX0_letHourGo_49 flX0_22 (hF.lt (by decide)) (hF.kc (by decide) rfl) ?_
      refine ez_topE (y := (nI i) - 20) (by rw [hI4, z_set_at]) ?_
      refine ez_iload (i := 5) dX0_letHourGo_52 rfl ?_
      refine ez_bipush (v := 9) dX0_letHourGo_54 (by decide) ?_
      refine ez_aload_n (i := 2) dX0_letHourGo_56 rfl rfl ?_
      refine ez_getI dX0_letHourGo_57 flX0_33 (hF.lt (by decide)) (hF.kc (by decide) rfl) ?_
      refine ez_topE (y := Ia 25 4) (by rw [hI4, z_set_nk (by decide)]) ?_
      refine ez_topE (y := T.x 21) (hlq.s.trans (zlr_o (by decide) (by decide))) ?_
      refine ez_callS (M1 := mX10_pullOf) (rest := [.int ((nI i) - 20), .ref 102]) dX0_letHourGo_60 mlX0_36 msX10_pullOf rfl (Nat.le_of_ble_eq_true rfl) rfl (zq_r (q_X10_pullOf (d + 18) (zst T (zlh T k i)) 9 (T.x 21)) (n, sl, kd, I4, L, Rf)) eb_rok ?_
      rintro _ _ ⟨rfl, rfl⟩
      show ez_P _ _ _ _ _ _ 63 [(5, .int (zst T (zlh T k i))), (4, .int (nI i)), (3, .int (nI p0)), (2, .ref 25), (1, .ref 5), (0, .ref 102)] (.int (z_pull (zst T (zlh T k i)) 9 (T.x 21)) :: [.int ((nI i) - 20), .ref 102]) _ _
      refine ez_callS (M1 := mX10_leanBy) (rest := [.ref 102]) dX0_letHourGo_63 mlX0_40 msX10_leanBy rfl (Nat.le_of_ble_eq_true rfl) rfl (zq_r (fun σ => q_X10_leanBy (σ := σ) (d + 18) ((nI i) - 20) (z_pull (zst T (zlh T k i)) 9 (T.x 21))) (n, sl, kd, I4, L, Rf)) eb_rok ?_
      rintro _ _ ⟨rfl, rfl⟩
      show ez_P _ _ _ _ _ _ 66 [(5, .int (zst T (zlh T k i))), (4, .int (nI i)), (3, .int (nI p0)), (2, .ref 25), (1, .ref 5), (0, .ref 102)] (.int (z_lb ((nI i) - 20) (z_pull (zst T (zlh T k i)) 9 (T.x 21))) :: [.ref 102]) _ _
      refine ez_topE (y := zgl T k i 9) zgl_e ?_
      refine ez_aload_n (i := 0) dX0_letHourGo_66 rfl rfl ?_
      refine ez_getR dX0_letHourGo_67 flX0_11 (hF.lt (by decide)) (hF.kc (by decide) rfl) hRa ?_
      refine ez_iload (i := 4) dX0_letHourGo_70 rfl ?_
      refine ez_iaN (k := i) dX0_letHourGo_72 (hF.lt (by decide)) (hF.ka (by decide) rfl) (by omega) (by decide) ?_
      refine ez_topE (y := Ia 104 i) (by rw [hI4, z_set_ne (by decide)]) ?_
      refine ez_topE (y := nI (zgwi T p0 k i)) (hV.1 i (Nat.le_refl _) hi) ?_
      refine ez_iload_n (i := 3) dX0_letHourGo_73 rfl rfl ?_
      refine ez_imul dX0_letHourGo_74 ?_
      refine ez_topE (y := nI ((zgwi T p0 k i) * p0)) (nI_mul _ _) ?_
      refine ez_callV (M1 := mX0_go) (rest := []) dX0_letHourGo_75 mlX0_44 mvX0_go rfl (hF.lt (by decide)) (hF.kc (by decide) rfl) (Nat.le_of_ble_eq_true rfl) rfl (k_go_103 (I := I4) (L := L) (d + 17) hF hRb (zgl_rg (v := 18) hO hi (by decide)) (nI ((zgwi T p0 k i) * p0))) (eb_vok rfl) ?_
      rintro _ _ ⟨rfl, rfl⟩
      show ez_P _ _ _ _ _ _ 78 [(5, .int (zst T (zlh T k i))), (4, .int (nI i)), (3, .int (nI p0)), (2, .ref 25), (1, .ref 5), (0, .ref 102)] [] (n, sl, kd, (zgoM I4 103 (zgl T k i 9) (nI ((zgwi T p0 k i) * p0))), L, Rf) _
      refine ez_nmI (fun I5 hI5 => ?_)
      refine ez_aload_n (i := 0) dX0_letHourGo_78 rfl rfl ?_
      refine ez_aload_n (i := 2) dX0_letHourGo_79 rfl rfl ?_
      refine ez_getI dX0_letHourGo_80 flX0_22 (hF.lt (by decide)) (hF.kc (by decide) rfl) ?_
      refine ez_topE (y := (nI i) - 20) (by rw [hI5, zgoM_ne (by decide) (by decide), hI4, z_set_at]) ?_
      refine ez_iload (i := 5) dX0_letHourGo_83 rfl ?_
      refine ez_bipush (v := (-9)) dX0_letHourGo_85 (by decide) ?_
      refine ez_aload_n (i := 2) dX0_letHourGo_87 rfl rfl ?_
      refine ez_getI dX0_letHourGo_88 flX0_33 (hF.lt (by decide)) (hF.kc (by decide) rfl) ?_
      refine ez_topE (y := Ia 25 4) (by rw [hI5, zgoM_ne (by decide) (by decide), hI4, z_set_nk (by decide)]) ?_
      refine ez_topE (y := T.x 21) (hlq.s.trans (zlr_o (by decide) (by decide))) ?_
      refine ez_callS (M1 := mX10_pullOf) (rest := [.int ((nI i) - 20), .ref 102]) dX0_letHourGo_91 mlX0_36 msX10_pullOf rfl (Nat.le_of_ble_eq_true rfl) rfl (zq_r (q_X10_pullOf (d + 18) (zst T (zlh T k i)) (-9) (T.x 21)) (n, sl, kd, I5, L, Rf)) eb_rok ?_
      rintro _ _ ⟨rfl, rfl⟩
      show ez_P _ _ _ _ _ _ 94 [(5, .int (zst T (zlh T k i))), (4, .int (nI i)), (3, .int (nI p0)), (2, .ref 25), (1, .ref 5), (0, .ref 102)] (.int (z_pull (zst T (zlh T k i)) (-9) (T.x 21)) :: [.int ((nI i) - 20), .ref 102]) _ _
      refine ez_callS (M1 := mX10_leanBy) (rest := [.ref 102]) dX0_letHourGo_94 mlX0_40 msX10_leanBy rfl (Nat.le_of_ble_eq_true rfl) rfl (zq_r (fun σ => q_X10_leanBy (σ := σ) (d + 18) ((nI i) - 20) (z_pull (zst T (zlh T k i)) (-9) (T.x 21))) (n, sl, kd, I5, L, Rf)) eb_rok ?_
      rintro _ _ ⟨rfl, rfl⟩
      show ez_P _ _ _ _ _ _ 97 [(5, .int (zst T (zlh T k i))), (4, .int (nI i)), (3, .int (nI p0)), (2, .ref 25), (1, .ref 5), (0, .ref 102)] (.int (z_lb ((nI i) - 20) (z_pull (zst T (zlh T k i)) (-9) (T.x 21))) :: [.ref 102]) _ _
      refine ez_topE (y := zgl T k i (-9)) zgl_e ?_
      refine ez_aload_n (i := 0) dX0_letHourGo_97 rfl rfl ?_
      refine ez_getR dX0_letHourGo_98 flX0_11 (hF.lt (by decide)) (hF.kc (by decide) rfl) hRa ?_
      refine ez_iload (i := 4) dX0_letHourGo_101 rfl ?_
      refine ez_iaN (k := i) dX0_letHourGo_103 (hF.lt (by decide)) (hF.ka (by decide) rfl) (by omega) (by decide) ?_
      refine ez_topE (y := Ia 104 i) (by rw [hI5, zgoM_ne (by decide) (by decide), hI4, z_set_ne (by decide)]) ?_
      refine ez_topE (y := nI (zgwi T p0 k i)) (hV.1 i (Nat.le_refl _) hi) ?_
      refine ez_bipush (v := 10) dX0_letHourGo_104 (by decide) ?_
      refine ez_iload_n (i := 3) dX0_letHourGo_106 rfl rfl ?_
      refine ez_isub dX0_letHourGo_107 ?_
      refine ez_topE (y := nI (10 - p0)) (zg_10m hp) ?_
      refine ez_imul dX0_letHourGo_108 ?_
      refine ez_topE (y := nI ((zgwi T p0 k i) * (10 - p0))) (nI_mul _ _) ?_
      refine ez_callV (M1 := mX0_go) (rest := []) dX0_letHourGo_109 mlX0_44 mvX0_go rfl (hF.lt (by decide)) (hF.kc (by decide) rfl) (Nat.le_of_ble_eq_true rfl) rfl (k_go_103 (I := I5) (L := L) (d + 17) hF hRb (zgl_rg (v := 0) hO hi (by decide)) (nI ((zgwi T p0 k i) * (10 - p0)))) (eb_vok rfl) ?_
      rintro _ _ ⟨rfl, rfl⟩
      show ez_P _ _ _ _ _ _ 112 [(5, .int (zst T (zlh T k i))), (4, .int (nI i)), (3, .int (nI p0)), (2, .ref 25), (1, .ref 5), (0, .ref 102)] [] (n, sl, kd, (zgoM I5 103 (zgl T k i (-9)) (nI ((zgwi T p0 k i) * (10 - p0)))), L, Rf) _
      refine ez_nmI (fun I6 hI6 => ?_)
      refine ez_aload_n (i := 0) dX0_letHourGo_112 rfl rfl ?_
      refine ez_getR dX0_letHourGo_113 flX0_11 (hF.lt (by decide)) (hF.kc (by decide) rfl) hRa ?_
      refine ez_iload (i := 4) dX0_letHourGo_116 rfl ?_
      refine ez_iconst (v := 0) dX0_letHourGo_118 (by decide) ?_
      refine ez_isN (k := i) dX0_letHourGo_119 (hF.lt (by decide)) (hF.lx (by decide)) (hF.ka (by decide) rfl) (by omega) (by decide) ?_
      refine ez_nmI (fun I7 hI7 => ?_)
      refine ez_iinc (v := (nI (i + 1))) (l' := [(4, .int ((nI (i + 1)))), (5, .int (zst T (zlh T k i))), (3, .int (nI p0)), (2, .ref 25), (1, .ref 5), (0, .ref 102)]) dX0_letHourGo_120 rfl (nI_1 _) (by decide) rfl ?_
      refine ez_goto (tgt := 14) dX0_letHourGo_123 (by decide) ?_
      refine ez_sub (l' := [(4, .int ((nI (i + 1)))), (3, .int (nI p0)), (2, .ref 25), (1, .ref 5), (0, .ref 102)]) [0, 2, 3, 4, 5] rfl ?_
      exact ez_eq (l2 := [(4, .int (nI (i + 1))), (3, .int (nI p0)), (2, .ref 25), (1, .ref 5), (0, .ref 102)]) rfl rfl rfl (by rw [hI7, hI6, hI5, hI4]) (ih _ (zgV_s (by omega) hc7 hV hi))
  · rintro Ia hV
    show ez_P _ _ _ _ _ _ 14 [(4, .int (nI 41)), (3, .int (nI p0)), (2, .ref 25), (1, .ref 5), (0, .ref 102)] [] (n, sl, kd, Ia, L, Rf) _
    refine ez_iload (i := 4) dX0_letHourGo_14 rfl ?_
    refine ez_bipush (v := 41) dX0_letHourGo_16 (by decide) ?_
    refine ez_icmp_ge (tgt := 126) dX0_letHourGo_18 (by decide) (fun c8 => ?_) (fun c8 => absurd (by decide) c8)
    obtain ⟨lq, hle⟩ := hV.2.2.2.2.1
    refine ez_aload_n (i := 0) dX0_letHourGo_126 rfl rfl ?_
    refine ez_getR dX0_letHourGo_127 flX0_11 (hF.lt (by decide)) (hF.kc (by decide) rfl) hRa ?_
    refine ez_astore (l' := [(4, .ref 104), (3, .int (nI p0)), (2, .ref 25), (1, .ref 5), (0, .ref 102)]) dX0_letHourGo_130 (by decide) rfl ?_
    refine ez_aload_n (i := 0) dX0_letHourGo_132 rfl rfl ?_
    refine ez_aload_n (i := 0) dX0_letHourGo_133 rfl rfl ?_
    refine ez_getR dX0_letHourGo_134 flX0_15 (hF.lt (by decide)) (hF.kc (by decide) rfl) hRb ?_
    refine ez_putR dX0_letHourGo_137 plX0_11 (fun h => by cases h) (hF.lt (by decide)) (hF.kc (by decide) rfl) (Or.inl (hF.lt (by decide))) ?_
    refine ez_nmR (fun R9 hR9 => ?_)
    refine ez_aload_n (i := 0) dX0_letHourGo_140 rfl rfl ?_
    refine ez_aload (i := 4) dX0_letHourGo_141 rfl ?_
    refine ez_putR dX0_letHourGo_143 plX0_15 (fun h => by cases h) (hF.lt (by decide)) (hF.kc (by decide) rfl) (Or.inl (hF.lt (by decide))) ?_
    refine ez_nmR (fun R10 hR10 => ?_)
    refine ez_aload_n (i := 2) dX0_letHourGo_146 rfl rfl ?_
    refine ez_dup dX0_letHourGo_147 rfl ?_
    refine ez_getI dX0_letHourGo_148 flX0_48 (hF.lt (by decide)) (hF.kc (by decide) rfl) ?_
    refine ez_topE (y := T.x 25 + nI k) (hle.h.trans zlr_25) ?_
    refine ez_iconst (v := 1) dX0_letHourGo_151 (by decide) ?_
    refine ez_iadd dX0_letHourGo_152 ?_
    refine ez_pI dX0_letHourGo_153 plX0_48 (hF.lt (by decide)) (hF.lx (by decide)) (hF.kc (by decide) rfl) rfl rfl ?_
    refine ez_nmI (fun I11 hI11 => ?_)
    refine ez_vret dX0_letHourGo_156 rfl ?_
    have hRR : (R10 102 0 = some 103 ∧ R10 102 1 = some 104) ∧ ∀ c, c ≠ 102 → R10 c = Rf c := by rw [hR10, hR9]; exact ⟨⟨va_102.1, va_102.2.1⟩, va_102.2.2⟩
    exact ⟨rfl, _, _, lq, rfl, hRR.1, hRR.2, by rw [hI11]; exact hle.hr hc7, fun j hj => by rw [hI11, z_set_ne (by decide), hV.2.2.1 j hj, ← zgwi_s hO], fun j hj => by rw [hI11, z_set_ne (by decide)]; exact hV.2.1 j hj, by rw [hI11, z_set_ne (by decide), hV.2.2.2.1, ← zgu_s hO hp], fun c c1 c2 c3 c4 => by rw [hI11, z_set_ne c4]; exact hV.2.2.2.2.2 c c1 c2 c3 c4⟩
