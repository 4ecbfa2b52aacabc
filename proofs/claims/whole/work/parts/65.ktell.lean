/-! the class: the past; tellings; hours -/
section ZKM
variable {n : Nat} {sl : Nat × Nat} {kd : Nat → Nat × Nat} {I0 g I I1 : Nat → Nat → Int32} {L0 L L1 : Nat → Nat → Int64} {R0 Rf : Nat → Nat → Option Nat} {T : zT} {G Bf : Option (Nat → Int32)} {w : Bool}
theorem zK.unn {un : List (Nat → Int32)} (h : zK n kd I0 L0 R0 g I L Rf T G Bf w) (hs : zcU I1 T.c un) (hI : ∀ c, c < 33 ∨ 82 < c → I1 c = I c) : zK n kd I0 L0 R0 g I1 L Rf (T.w_un un) G Bf w := ⟨h.C.unn hs hI, fun x e => (h.gs x e).cg (hI _ (by omega)) (hI _ (by omega)) (hI _ (by omega)) (hI _ (by omega)), fun x e => (h.bf x e).cg (hI _ (by omega)) (hI _ (by omega)) (hI _ (by omega)) (hI _ (by omega)), fun e b hb => by rw [hI 108 (by omega)]; exact h.lo e b hb, fun c hc => by rw [hI c (by omega)]; exact h.f c hc, fun c hc => by rw [hI c (by unfold zgk at hc; omega)]; exact h.g c hc⟩
theorem zK.txt {tx : List Int32} (h : zK n kd I0 L0 R0 g I L Rf T G Bf w) (hs : zcT I1 tx) (hI : ∀ c, c < 1 ∨ 2 < c → I1 c = I c) : zK n kd I0 L0 R0 g I1 L Rf (T.w_tx tx) G Bf w := ⟨h.C.txt hs hI, fun x e => (h.gs x e).cg (hI _ (by omega)) (hI _ (by omega)) (hI _ (by omega)) (hI _ (by omega)), fun x e => (h.bf x e).cg (hI _ (by omega)) (hI _ (by omega)) (hI _ (by omega)) (hI _ (by omega)), fun e b hb => by rw [hI 108 (by omega)]; exact h.lo e b hb, fun c hc => by rw [hI c (by omega)]; exact h.f c hc, fun c hc => by rw [hI c (by unfold zgk at hc; omega)]; exact h.g c hc⟩
theorem zK.snn {sn : List (Int32 × Int32 × Int32)} (h : zK n kd I0 L0 R0 g I L Rf T G Bf w) (hs : zcN I1 sn) (hI : ∀ c, c < 93 ∨ 96 < c → I1 c = I c) : zK n kd I0 L0 R0 g I1 L Rf (T.w_sn sn) G Bf w := ⟨h.C.snn hs hI, fun x e => (h.gs x e).cg (hI _ (by omega)) (hI _ (by omega)) (hI _ (by omega)) (hI _ (by omega)), fun x e => (h.bf x e).cg (hI _ (by omega)) (hI _ (by omega)) (hI _ (by omega)) (hI _ (by omega)), fun e b hb => by rw [hI 108 (by omega)]; exact h.lo e b hb, fun c hc => by rw [hI c (by omega)]; exact h.f c hc, fun c hc => by rw [hI c (by unfold zgk at hc; omega)]; exact h.g c hc⟩
theorem zK.hdd {hd : List (Int32 × Int32)} (h : zK n kd I0 L0 R0 g I L Rf T G Bf w) (hs : zcH I1 hd) (hI : ∀ c, c < 97 ∨ 99 < c → I1 c = I c) : zK n kd I0 L0 R0 g I1 L Rf (T.w_hd hd) G Bf w := ⟨h.C.hdd hs hI, fun x e => (h.gs x e).cg (hI _ (by omega)) (hI _ (by omega)) (hI _ (by omega)) (hI _ (by omega)), fun x e => (h.bf x e).cg (hI _ (by omega)) (hI _ (by omega)) (hI _ (by omega)) (hI _ (by omega)), fun e b hb => by rw [hI 108 (by omega)]; exact h.lo e b hb, fun c hc => by rw [hI c (by omega)]; exact h.f c hc, fun c hc => by rw [hI c (by unfold zgk at hc; omega)]; exact h.g c hc⟩
theorem zK.kpp {kp : Nat → Option (Nat → Int32)} (h : zK n kd I0 L0 R0 g I L Rf T G Bf w) (hs : zcK I1 T.c kp) (hI : ∀ c, c < 84 ∨ 92 < c → I1 c = I c) : zK n kd I0 L0 R0 g I1 L Rf (T.w_kp kp) G Bf w := ⟨h.C.kpp hs hI, fun x e => (h.gs x e).cg (hI _ (by omega)) (hI _ (by omega)) (hI _ (by omega)) (hI _ (by omega)), fun x e => (h.bf x e).cg (hI _ (by omega)) (hI _ (by omega)) (hI _ (by omega)) (hI _ (by omega)), fun e b hb => by rw [hI 108 (by omega)]; exact h.lo e b hb, fun c hc => by rw [hI c (by omega)]; exact h.f c hc, fun c hc => by rw [hI c (by unfold zgk at hc; omega)]; exact h.g c hc⟩
end ZKM
def k_po (n : Nat) (sl : Nat × Nat) (kd : Nat → Nat × Nat) (I : Nat → Nat → Int32) (L : Nat → Nat → Int64) (Rf : Nat → Nat → Option Nat) (c : Nat) (un : List (Nat → Int32)) : Option Value → eb_S → Prop := fun r τ => r = none ∧ ∃ I1, τ = (n, sl, kd, I1, L, Rf) ∧ zcU I1 c un ∧ ∀ q, q < 33 ∨ 82 < q → I1 q = I q
theorem k_po_ok {n : Nat} {sl : Nat × Nat} {kd : Nat → Nat × Nat} {I : Nat → Nat → Int32} {L : Nat → Nat → Int64} {Rf : Nat → Nat → Option Nat} {c : Nat} {un : List (Nat → Int32)} {l : List (Nat × Value)} {rest : List Value} : ∀ r1 σ1, k_po n sl kd I L Rf c un r1 σ1 → σ1.1 = n ∨ ((∀ q ∈ l, eb_okv n q.2) ∧ ∀ v ∈ rest, eb_okv n v) := fun _ _ h => Or.inl (by obtain ⟨_, I1, h, _⟩ := h; rw [h])
theorem zcS.s33 {I : Nat → Nat → Int32} {j c k : Nat} {x : Nat → Int32} {v : Int32} (h : zcS I j c x) (hj : 33 < j ∨ j + 3 < 33) : zcS (z_set I 33 k v) j c x := h.cg (z_set_ne (by omega)) (z_set_ne (by omega)) (z_set_ne (by omega)) (z_set_ne (by omega))
theorem k_past {n : Nat} {sl : Nat × Nat} {kd : Nat → Nat × Nat} {I : Nat → Nat → Int32} {L : Nat → Nat → Int64} {Rf : Nat → Nat → Option Nat} {T : zT} (d : Nat) (hC : zC n kd I L Rf T) (hu : T.un.length ≤ 12) (hc7 : T.c ≤ 7) {y : Nat → Int32} (hs : zcS I 29 T.c y) : zq mX2_add (d + 1) [.ref 33, .ref 29] (n, sl, kd, I, L, Rf) (k_po n sl kd I L Rf T.c (zpush T.un y)) := by
  obtain ⟨o, ho, h1, h2, h3⟩ := hC.un
  have hm : ∀ q, q % 12 < 12 := fun q => Nat.mod_lt _ (by decide)
  by_cases hf : T.un.length < 12
  · refine (y_X2_add_few (I := I) (L := L) d hC.F.pst rfl h1 ho h2 (hC.F.shp (i := 29) (by decide)) (by decide) hs.cr hc7 (by decide) hf).to ?_
    rintro _ _ ⟨rfl, rfl⟩
    have hj := hm (o + T.un.length)
    refine ⟨rfl, _, rfl, ⟨o, ho, ?_, ?_, fun k z hz => ?_⟩, fun q hq => ?_⟩
    · rw [z_set_nk (by decide), z_cp_ne (by omega) (by omega) (by omega) (by omega)]; exact h1
    · rw [z_set_at]; unfold zpush; rw [if_pos hf, List.length_append]; rfl
    · have hk := hm (o + k)
      refine zcS.s33 ?_ (by omega)
      unfold zpush at hz
      rw [if_pos hf] at hz
      by_cases e : k < T.un.length
      · rw [List.getElem?_append_left e] at hz
        refine (h3 k z hz).cpn ?_
        omega
      · rw [List.getElem?_append_right (by omega)] at hz
        have e2 : k = T.un.length := by
          by_cases e3 : k - T.un.length = 0
          · omega
          · rw [List.getElem?_eq_none (by simp; omega)] at hz; cases hz
        subst e2
        rw [Nat.sub_self] at hz
        cases hz
        exact hs.cp
    · rw [z_set_ne (by omega), z_cp_ne (by omega) (by omega) (by omega) (by omega)]
  · have hl : T.un.length = 12 := by omega
    refine (y_X2_add_full (I := I) (L := L) d hC.F.pst rfl h1 ho h2 (hC.F.shp (i := 29) (by decide)) (by decide) hs.cr hc7 (by decide) hl).to ?_
    rintro _ _ ⟨rfl, rfl⟩
    have hj := hm (o + T.un.length)
    have ht : T.un.tail.length = 11 := by rw [List.length_tail, hl]
    refine ⟨rfl, _, rfl, ⟨(o + 1) % 12, hm _, ?_, ?_, fun k z hz => ?_⟩, fun q hq => ?_⟩
    · rw [z_set_at]
    · rw [z_set_nk (by decide), z_cp_ne (by omega) (by omega) (by omega) (by omega)]
      unfold zpush; rw [if_neg hf, List.length_append, ht, h2, hl]; rfl
    · have hk := hm ((o + 1) % 12 + k)
      refine zcS.s33 ?_ (by omega)
      unfold zpush at hz
      rw [if_neg hf] at hz
      by_cases e : k < 11
      · rw [List.getElem?_append_left (by omega), List.getElem?_tail] at hz
        have := h3 (k + 1) z hz
        rw [show (o + (k + 1)) % 12 = ((o + 1) % 12 + k) % 12 from by omega] at this
        refine this.cpn ?_
        omega
      · rw [List.getElem?_append_right (by omega)] at hz
        have e2 : k = 11 := by
          by_cases e3 : k - T.un.tail.length = 0
          · omega
          · rw [List.getElem?_eq_none (by simp; omega)] at hz; cases hz
        subst e2
        rw [ht] at hz
        cases hz
        rw [show ((o + 1) % 12 + 11) % 12 = (o + T.un.length) % 12 from by omega]
        exact hs.cp
    · rw [z_set_ne (by omega), z_cp_ne (by omega) (by omega) (by omega) (by omega)]
theorem k_pempty {n : Nat} {sl : Nat × Nat} {kd : Nat → Nat × Nat} {I : Nat → Nat → Int32} {L : Nat → Nat → Int64} {Rf : Nat → Nat → Option Nat} {T : zT} (d : Nat) (hC : zC n kd I L Rf T) : zq mX2_empty d [.ref 33] (n, sl, kd, I, L, Rf) (k_po n sl kd I L Rf T.c []) := by
  obtain ⟨o, ho, h1, h2, h3⟩ := hC.un
  refine (y_X2_empty (I := I) (L := L) d hC.F.pst rfl).to ?_
  rintro _ _ ⟨rfl, rfl⟩
  exact ⟨rfl, _, rfl, ⟨o, ho, by rw [z_set_nk (by decide)]; exact h1, by rw [z_set_at]; rfl, fun k y hy => by simp at hy⟩, fun q hq => z_set_ne (by omega)⟩
/-! the five tellings: the answer and the row -/
def q_tell (T : zT) (b t : Int32) : Int32 × (Nat → Int32) := if (0 ≤ b ∧ b < nI T.c) ∧ (0 ≤ t ∧ t ≤ 5) then (if T.x (7 + b.toNatClampNeg) = t then (-2, T.x) else (10 + T.x (7 + b.toNatClampNeg), zup T.x (7 + b.toNatClampNeg) t)) else (-1, T.x)
def q_move (T : zT) (b t : Int32) : Int32 × (Nat → Int32) := if (0 ≤ b ∧ b < nI T.c) ∧ (-5 ≤ t ∧ t ≤ 5) then (if T.x (14 + b.toNatClampNeg) = t then (-2, T.x) else (z_ab (T.x (14 + b.toNatClampNeg) - t), zup T.x (14 + b.toNatClampNeg) t)) else (-1, T.x)
def q_ease (T : zT) (b : Int32) : Int32 × (Nat → Int32) := if (0 ≤ b ∧ b < nI T.c) then (if T.x b.toNatClampNeg = 0 then (-2, T.x) else (T.x b.toNatClampNeg - 1, zup T.x b.toNatClampNeg (T.x b.toNatClampNeg - 1))) else (-1, T.x)
def q_preach (T : zT) (b t : Int32) : Int32 × (Nat → Int32) := if (0 ≤ b ∧ b < nI T.c) ∧ (1 ≤ t ∧ t ≤ 9) then (if T.x b.toNatClampNeg = 9 then (-2, T.x) else (z_mn 9 (T.x b.toNatClampNeg + t), zup T.x b.toNatClampNeg (z_mn 9 (T.x b.toNatClampNeg + t)))) else (-1, T.x)
def q_sail (T : zT) (t : Int32) : Int32 × (Nat → Int32) := if (0 ≤ t ∧ t ≤ 9) then (if T.x 21 = t then (-2, T.x) else (10 + T.x 21, zup T.x 21 t)) else (-1, T.x)
/-- behind a telling that was remembered or not -/
def zrm (T : zT) (q : Int32 × (Nat → Int32)) : zT := if q.1 < 0 then T.w_x q.2 else (T.w_x q.2).w_un (zpush T.un T.x)
theorem zrm_n {T : zT} {v : Int32} (h : v < 0) : zrm T (v, T.x) = T := by unfold zrm; rw [if_pos h]; rfl
theorem zrm_y {T : zT} {v : Int32} {y : Nat → Int32} (h : ¬ v < 0) : zrm T (v, y) = zdo T y := by unfold zrm; rw [if_neg h]; rfl
theorem z_10_k : ∀ k, k < 10 → ¬ (10 + nI k < 0) := by decide +kernel
theorem z_pp_k : ∀ a, a < 11 → ∀ b, b < 11 → z_ab ((nI a - 5) - (nI b - 5)) = z_ab ((nI b - 5) - (nI a - 5)) ∧ ¬ (z_ab ((nI a - 5) - (nI b - 5)) < 0) ∧ (z_ab ((nI b - 5) - (nI a - 5)) = 0 ↔ a = b) := by decide +kernel
theorem z_ez_k : ∀ k, k < 10 → nI k ≠ 0 → ¬ (nI k - 1 < 0) := by decide +kernel
theorem z_pr_k : ∀ k, k < 10 → ∀ t, t < 10 → ¬ (z_mn 9 (nI k + nI t) < 0) ∧ z_mn 9 (nI k + nI t) = (if 9 < nI k + nI t then 9 else nI k + nI t) := by decide +kernel
theorem z_5k {t : Int32} (h : -5 ≤ t ∧ t ≤ 5) : ∃ k, k < 11 ∧ t = nI k - 5 := by
  have hi : -5 ≤ t.toInt ∧ t.toInt ≤ 5 := by
    have h1 := Int32.le_iff_toInt_le.mp h.1; have h2 := Int32.le_iff_toInt_le.mp h.2
    rw [show (-5 : Int32).toInt = -5 from rfl] at h1; rw [show (5 : Int32).toInt = 5 from rfl] at h2
    exact ⟨h1, h2⟩
  refine ⟨(t.toInt + 5).toNat, by omega, Int32.toInt_inj.mp ?_⟩
  rw [Int32.toInt_sub, nI_toInt (by omega), show (5 : Int32).toInt = 5 from rfl]
  rw [Int.bmod_eq_of_le (by omega) (by omega)]; omega
theorem s_tells_q {T : zT} {H : Nat} (hO : zOk H T) (b t : Int32) : s_tells T b t = ((q_tell T b t).1, zrm T (q_tell T b t)) := by
  unfold s_tells q_tell
  split
  · next h =>
    obtain ⟨b0, hb, rfl⟩ := pk_of (by have := hO.c; omega) h.1.1 h.1.2
    split
    · exact Prod.ext rfl (zrm_n (v := -2) (by decide)).symm
    · refine Prod.ext rfl (zrm_y ?_).symm
      rw [nI_clamp (by have := hO.c; omega)]; obtain ⟨k, hk, e⟩ := hO.x.t b0 hb; rw [e]; exact z_10_k k (by omega)
  · exact Prod.ext rfl (zrm_n (v := -1) (by decide)).symm
theorem s_moves_q {T : zT} {H : Nat} (hO : zOk H T) (b t : Int32) : s_moves T b t = ((q_move T b t).1, zrm T (q_move T b t)) := by
  unfold s_moves q_move
  split
  · next h =>
    obtain ⟨b0, hb, rfl⟩ := pk_of (by have := hO.c; omega) h.1.1 h.1.2
    obtain ⟨q, hq, rfl⟩ := z_5k h.2
    split
    · exact Prod.ext rfl (zrm_n (v := -2) (by decide)).symm
    · refine Prod.ext rfl (zrm_y ?_).symm
      rw [nI_clamp (by have := hO.c; omega)]; obtain ⟨k, hk, e⟩ := hO.x.p b0 hb; rw [e]; exact (z_pp_k k hk q hq).2.1
  · exact Prod.ext rfl (zrm_n (v := -1) (by decide)).symm
theorem s_eases_q {T : zT} {H : Nat} (hO : zOk H T) (b : Int32) : s_eases T b = ((q_ease T b).1, zrm T (q_ease T b)) := by
  unfold s_eases q_ease
  split
  · next h =>
    obtain ⟨b0, hb, rfl⟩ := pk_of (by have := hO.c; omega) h.1 h.2
    rw [nI_clamp (by have := hO.c; omega)]
    split
    · exact Prod.ext rfl (zrm_n (v := -2) (by decide)).symm
    · next h2 =>
      refine Prod.ext rfl (zrm_y ?_).symm
      obtain ⟨k, hk, e⟩ := hO.x.g b0 hb; rw [e] at h2 ⊢; exact z_ez_k k hk h2
  · exact Prod.ext rfl (zrm_n (v := -1) (by decide)).symm
theorem s_preaches_q {T : zT} {H : Nat} (hO : zOk H T) (b t : Int32) : s_preaches T b t = ((q_preach T b t).1, zrm T (q_preach T b t)) := by
  unfold s_preaches q_preach
  split
  · next h =>
    obtain ⟨b0, hb, rfl⟩ := pk_of (by have := hO.c; omega) h.1.1 h.1.2
    obtain ⟨q, _, hq, rfl⟩ := z_pk1 (lo := 1) (N := 9) h.2 (by decide) (by decide)
    rw [nI_clamp (by have := hO.c; omega)]
    split
    · exact Prod.ext rfl (zrm_n (v := -2) (by decide)).symm
    · refine Prod.ext rfl (zrm_y ?_).symm
      obtain ⟨k, hk, e⟩ := hO.x.g b0 hb; rw [e]; exact (z_pr_k k hk q (by omega)).1
  · exact Prod.ext rfl (zrm_n (v := -1) (by decide)).symm
theorem s_sails_q {T : zT} {H : Nat} (hO : zOk H T) (t : Int32) : s_sails T t = ((q_sail T t).1, zrm T (q_sail T t)) := by
  unfold s_sails q_sail
  split
  · split
    · exact Prod.ext rfl (zrm_n (v := -2) (by decide)).symm
    · refine Prod.ext rfl (zrm_y ?_).symm
      obtain ⟨k, hk, e⟩ := hO.x.s; rw [e]; exact z_10_k k hk
  · exact Prod.ext rfl (zrm_n (v := -1) (by decide)).symm
def zpX (n : Nat) (sl : Nat × Nat) (kd : Nat → Nat × Nat) (I0 : Nat → Nat → Int32) (L0 : Nat → Nat → Int64) (R0 : Nat → Nat → Option Nat) (g : Nat → Nat → Int32) (L : Nat → Nat → Int64) (Rf : Nat → Nat → Option Nat) (T : zT) (G Bf : Option (Nat → Int32)) (q : Int32 × (Nat → Int32)) : Option Value → eb_S → Prop := fun r τ => r = some (.int q.1) ∧ ∃ I1, τ = (n, sl, kd, I1, L, Rf) ∧ zK n kd I0 L0 R0 g I1 L Rf (T.w_x q.2) G Bf false
theorem zpX_ok {n : Nat} {sl : Nat × Nat} {kd : Nat → Nat × Nat} {I0 g : Nat → Nat → Int32} {L0 L : Nat → Nat → Int64} {R0 Rf : Nat → Nat → Option Nat} {T : zT} {G Bf : Option (Nat → Int32)} {q : Int32 × (Nat → Int32)} {l : List (Nat × Value)} {rest : List Value} : ∀ r1 σ1, zpX n sl kd I0 L0 R0 g L Rf T G Bf q r1 σ1 → σ1.1 = n ∨ ((∀ q ∈ l, eb_okv n q.2) ∧ ∀ v ∈ rest, eb_okv n v) := fun _ _ h => Or.inl (by obtain ⟨_, I1, h, _⟩ := h; rw [h])
theorem zK.sh0 {n : Nat} {kd : Nat → Nat × Nat} {I0 g I : Nat → Nat → Int32} {L0 L : Nat → Nat → Int64} {R0 Rf : Nat → Nat → Option Nat} {T : zT} {G Bf : Option (Nat → Int32)} {w : Bool} (h : zK n kd I0 L0 R0 g I L Rf T G Bf w) : zK n kd I0 L0 R0 g I L Rf (T.w_x T.x) G Bf false := h.sh h.C.sh (fun _ _ => rfl)
theorem k_tell {n : Nat} {sl : Nat × Nat} {kd : Nat → Nat × Nat} {I : Nat → Nat → Int32} {L : Nat → Nat → Int64} {Rf : Nat → Nat → Option Nat} (d : Nat) {T : zT} {H : Nat} {I0 g : Nat → Nat → Int32} {L0 : Nat → Nat → Int64} {R0 : Nat → Nat → Option Nat} {G Bf : Option (Nat → Int32)} {w : Bool} (hK : zK n kd I0 L0 R0 g I L Rf T G Bf w) (hO : zOk H T) (b t : Int32) : zq mX7_tell (d + 1) [.ref 21, .int b, .int t] (n, sl, kd, I, L, Rf) (zpX n sl kd I0 L0 R0 g L Rf T G Bf (q_tell T b t)) := by
  have hC := hK.C
  have hS := hC.F.shp (i := 21) (by decide)
  by_cases hb : 0 ≤ b ∧ b < nI T.c
  · obtain ⟨b0, hb0, rfl⟩ := pk_of (by have := hO.c; omega) hb.1 hb.2
    by_cases ht : 0 ≤ t ∧ t ≤ 5
    · refine (y_X7_tell_ok (I := I) (L := L) d (i := 21) hS (by decide) hC.sh.cr hO.c hb0 ht).to ?_
      rintro _ _ ⟨rfl, rfl⟩
      have e : I 23 b0 = T.x (7 + b0) := hC.sh.t b0 hb0
      have hq : q_tell T (nI b0) t = ((if T.x (7 + b0) = t then -2 else 10 + T.x (7 + b0)), zup T.x (7 + b0) t) := by
        unfold q_tell; rw [if_pos ⟨hb, ht⟩, nI_clamp (by have := hO.c; omega)]
        split
        · next h => rw [← h, zup_id]
        · rfl
      rw [hq]
      exact ⟨by show some (Value.int (if I 23 b0 = t then -2 else 10 + I 23 b0)) = _; rw [e], _, rfl, hK.sh (hC.sh.tho hO.c (by have := hO.c; omega) t) (fun c hc => z_set_ne (by omega))⟩
    · refine (y_X7_tell_nx (I := I) (L := L) d (i := 21) hS (by decide) hC.sh.cr hO.c hb0 ht).to ?_
      rintro _ _ ⟨rfl, rfl⟩
      rw [show q_tell T (nI b0) t = (-1, T.x) from by unfold q_tell; rw [if_neg (fun g => ht g.2)]]
      exact ⟨rfl, _, rfl, hK.sh0⟩
  · refine (y_X7_tell_no (I := I) (L := L) d (i := 21) hS (by decide) b (by rw [hC.sh.cr]; exact hb) t).to ?_
    rintro _ _ ⟨rfl, rfl⟩
    rw [show q_tell T b t = (-1, T.x) from by unfold q_tell; rw [if_neg (fun g => hb g.1)]]
    exact ⟨rfl, _, rfl, hK.sh0⟩
theorem k_move {n : Nat} {sl : Nat × Nat} {kd : Nat → Nat × Nat} {I : Nat → Nat → Int32} {L : Nat → Nat → Int64} {Rf : Nat → Nat → Option Nat} (d : Nat) {T : zT} {H : Nat} {I0 g : Nat → Nat → Int32} {L0 : Nat → Nat → Int64} {R0 : Nat → Nat → Option Nat} {G Bf : Option (Nat → Int32)} {w : Bool} (hK : zK n kd I0 L0 R0 g I L Rf T G Bf w) (hO : zOk H T) (b t : Int32) : zq mX7_move (d + 1) [.ref 21, .int b, .int t] (n, sl, kd, I, L, Rf) (zpX n sl kd I0 L0 R0 g L Rf T G Bf (q_move T b t)) := by
  have hC := hK.C
  have hS := hC.F.shp (i := 21) (by decide)
  by_cases hb : 0 ≤ b ∧ b < nI T.c
  · obtain ⟨b0, hb0, rfl⟩ := pk_of (by have := hO.c; omega) hb.1 hb.2
    by_cases ht : -5 ≤ t ∧ t ≤ 5
    · refine (y_X7_move_ok (I := I) (L := L) d (i := 21) hS (by decide) hC.sh.cr hO.c hb0 ht).to ?_
      rintro _ _ ⟨rfl, rfl⟩
      have e : I 24 b0 = T.x (14 + b0) := hC.sh.p b0 hb0
      obtain ⟨u, hu, eu⟩ := z_5k ht
      obtain ⟨p, hp, ep⟩ := hO.x.p b0 hb0
      obtain ⟨f1, f2, f3⟩ := z_pp_k p hp u hu
      have hq : q_move T (nI b0) t = ((if z_ab (t - T.x (14 + b0)) = 0 then -2 else z_ab (t - T.x (14 + b0))), zup T.x (14 + b0) t) := by
        unfold q_move; rw [if_pos ⟨hb, ht⟩, nI_clamp (by have := hO.c; omega)]
        by_cases h : T.x (14 + b0) = t
        · rw [if_pos h, if_pos (by rw [ep, eu]; exact f3.mpr (z_nIinj (z_5inj (by rw [← ep, ← eu]; exact h)) (by omega) (by omega))), ← h, zup_id]
        · rw [if_neg h, if_neg (by rw [ep, eu]; exact fun g => h (by rw [ep, eu, f3.mp g])), ep, eu, f1]
      rw [hq]
      exact ⟨by show some (Value.int (if z_ab (t - I 24 b0) = 0 then -2 else z_ab (t - I 24 b0))) = _; rw [e], _, rfl, hK.sh (hC.sh.pla hO.c (by have := hO.c; omega) t) (fun c hc => z_set_ne (by omega))⟩
    · refine (y_X7_move_nx (I := I) (L := L) d (i := 21) hS (by decide) hC.sh.cr hO.c hb0 ht).to ?_
      rintro _ _ ⟨rfl, rfl⟩
      rw [show q_move T (nI b0) t = (-1, T.x) from by unfold q_move; rw [if_neg (fun g => ht g.2)]]
      exact ⟨rfl, _, rfl, hK.sh0⟩
  · refine (y_X7_move_no (I := I) (L := L) d (i := 21) hS (by decide) b (by rw [hC.sh.cr]; exact hb) t).to ?_
    rintro _ _ ⟨rfl, rfl⟩
    rw [show q_move T b t = (-1, T.x) from by unfold q_move; rw [if_neg (fun g => hb g.1)]]
    exact ⟨rfl, _, rfl, hK.sh0⟩
theorem k_ease {n : Nat} {sl : Nat × Nat} {kd : Nat → Nat × Nat} {I : Nat → Nat → Int32} {L : Nat → Nat → Int64} {Rf : Nat → Nat → Option Nat} (d : Nat) {T : zT} {H : Nat} {I0 g : Nat → Nat → Int32} {L0 : Nat → Nat → Int64} {R0 : Nat → Nat → Option Nat} {G Bf : Option (Nat → Int32)} {w : Bool} (hK : zK n kd I0 L0 R0 g I L Rf T G Bf w) (hO : zOk H T) (b : Int32) : zq mX7_ease (d + 1) [.ref 21, .int b] (n, sl, kd, I, L, Rf) (zpX n sl kd I0 L0 R0 g L Rf T G Bf (q_ease T b)) := by
  have hC := hK.C
  have hS := hC.F.shp (i := 21) (by decide)
  by_cases hb : 0 ≤ b ∧ b < nI T.c
  · obtain ⟨b0, hb0, rfl⟩ := pk_of (by have := hO.c; omega) hb.1 hb.2
    have e : I 22 b0 = T.x b0 := hC.sh.g b0 hb0
    by_cases hz : T.x b0 = 0
    · refine (y_X7_ease_nz (I := I) (L := L) d (i := 21) hS (by decide) hC.sh.cr hO.c hb0 (e.trans hz)).to ?_
      rintro _ _ ⟨rfl, rfl⟩
      rw [show q_ease T (nI b0) = (-2, T.x) from by unfold q_ease; rw [if_pos hb, nI_clamp (by have := hO.c; omega), if_pos hz]]
      exact ⟨rfl, _, rfl, hK.sh0⟩
    · refine (y_X7_ease_ok (I := I) (L := L) d (i := 21) hS (by decide) hC.sh.cr hO.c hb0 (by rw [show I (21 + 1) b0 = T.x b0 from e]; exact hz)).to ?_
      rintro _ _ ⟨rfl, rfl⟩
      rw [show q_ease T (nI b0) = (T.x b0 - 1, zup T.x b0 (T.x b0 - 1)) from by unfold q_ease; rw [if_pos hb, nI_clamp (by have := hO.c; omega), if_neg hz]]
      rw [show I (21 + 1) b0 = T.x b0 from e]
      exact ⟨rfl, _, rfl, hK.sh (hC.sh.gra hO.c (by have := hO.c; omega) _) (fun c hc => z_set_ne (by omega))⟩
  · refine (y_X7_ease_no (I := I) (L := L) d (i := 21) hS (by decide) b (by rw [hC.sh.cr]; exact hb)).to ?_
    rintro _ _ ⟨rfl, rfl⟩
    rw [show q_ease T b = (-1, T.x) from by unfold q_ease; rw [if_neg hb]]
    exact ⟨rfl, _, rfl, hK.sh0⟩
theorem k_preach {n : Nat} {sl : Nat × Nat} {kd : Nat → Nat × Nat} {I : Nat → Nat → Int32} {L : Nat → Nat → Int64} {Rf : Nat → Nat → Option Nat} (d : Nat) {T : zT} {H : Nat} {I0 g : Nat → Nat → Int32} {L0 : Nat → Nat → Int64} {R0 : Nat → Nat → Option Nat} {G Bf : Option (Nat → Int32)} {w : Bool} (hK : zK n kd I0 L0 R0 g I L Rf T G Bf w) (hO : zOk H T) (b t : Int32) : zq mX7_preach (d + 1) [.ref 21, .int b, .int t] (n, sl, kd, I, L, Rf) (zpX n sl kd I0 L0 R0 g L Rf T G Bf (q_preach T b t)) := by
  have hC := hK.C
  have hS := hC.F.shp (i := 21) (by decide)
  by_cases hb : 0 ≤ b ∧ b < nI T.c
  · obtain ⟨b0, hb0, rfl⟩ := pk_of (by have := hO.c; omega) hb.1 hb.2
    have e : I 22 b0 = T.x b0 := hC.sh.g b0 hb0
    by_cases ht : 1 ≤ t ∧ t ≤ 9
    · by_cases hz : T.x b0 = 9
      · refine (y_X7_preach_nz (I := I) (L := L) d (i := 21) hS (by decide) hC.sh.cr hO.c hb0 ht (e.trans hz)).to ?_
        rintro _ _ ⟨rfl, rfl⟩
        rw [show q_preach T (nI b0) t = (-2, T.x) from by unfold q_preach; rw [if_pos ⟨hb, ht⟩, nI_clamp (by have := hO.c; omega), if_pos hz]]
        exact ⟨rfl, _, rfl, hK.sh0⟩
      · refine (y_X7_preach_ok (I := I) (L := L) d (i := 21) hS (by decide) hC.sh.cr hO.c hb0 ht (by rw [show I (21 + 1) b0 = T.x b0 from e]; exact hz)).to ?_
        rintro _ _ ⟨rfl, rfl⟩
        obtain ⟨k, hk, ek⟩ := hO.x.g b0 hb0
        obtain ⟨u, _, hu, eu⟩ := z_pk1 (lo := 1) (N := 9) ht (by decide) (by decide)
        rw [show q_preach T (nI b0) t = (z_mn 9 (T.x b0 + t), zup T.x b0 (z_mn 9 (T.x b0 + t))) from by unfold q_preach; rw [if_pos ⟨hb, ht⟩, nI_clamp (by have := hO.c; omega), if_neg hz]]
        rw [show I (21 + 1) b0 = T.x b0 from e, show (if 9 < T.x b0 + t then 9 else T.x b0 + t) = z_mn 9 (T.x b0 + t) from by rw [ek, eu]; exact (z_pr_k k hk u (by omega)).2.symm]
        exact ⟨rfl, _, rfl, hK.sh (hC.sh.gra hO.c (by have := hO.c; omega) _) (fun c hc => z_set_ne (by omega))⟩
    · refine (y_X7_preach_nx (I := I) (L := L) d (i := 21) hS (by decide) hC.sh.cr hO.c hb0 ht).to ?_
      rintro _ _ ⟨rfl, rfl⟩
      rw [show q_preach T (nI b0) t = (-1, T.x) from by unfold q_preach; rw [if_neg (fun g => ht g.2)]]
      exact ⟨rfl, _, rfl, hK.sh0⟩
  · refine (y_X7_preach_no (I := I) (L := L) d (i := 21) hS (by decide) b (by rw [hC.sh.cr]; exact hb) t).to ?_
    rintro _ _ ⟨rfl, rfl⟩
    rw [show q_preach T b t = (-1, T.x) from by unfold q_preach; rw [if_neg (fun g => hb g.1)]]
    exact ⟨rfl, _, rfl, hK.sh0⟩
theorem k_sail {n : Nat} {sl : Nat × Nat} {kd : Nat → Nat × Nat} {I : Nat → Nat → Int32} {L : Nat → Nat → Int64} {Rf : Nat → Nat → Option Nat} (d : Nat) {T : zT} {H : Nat} {I0 g : Nat → Nat → Int32} {L0 : Nat → Nat → Int64} {R0 : Nat → Nat → Option Nat} {G Bf : Option (Nat → Int32)} {w : Bool} (hK : zK n kd I0 L0 R0 g I L Rf T G Bf w) (hO : zOk H T) (t : Int32) : zq mX7_setSail (d + 1) [.ref 21, .int t] (n, sl, kd, I, L, Rf) (zpX n sl kd I0 L0 R0 g L Rf T G Bf (q_sail T t)) := by
  have hC := hK.C
  have hS := hC.F.shp (i := 21) (by decide)
  by_cases ht : 0 ≤ t ∧ t ≤ 9
  · refine (y_X7_setSail_ok (I := I) (L := L) d (i := 21) hS (by decide) ht).to ?_
    rintro _ _ ⟨rfl, rfl⟩
    have e : I 21 4 = T.x 21 := hC.sh.s
    have hq : q_sail T t = ((if T.x 21 = t then -2 else 10 + T.x 21), zup T.x 21 t) := by
      unfold q_sail; rw [if_pos ht]
      split
      · next h => rw [← h, zup_id]
      · rfl
    rw [hq]
    exact ⟨by show some (Value.int (if I 21 4 = t then -2 else 10 + I 21 4)) = _; rw [e], _, rfl, hK.sh (hC.sh.sai hO.c t) (fun c hc => z_set_ne (by omega))⟩
  · refine (y_X7_setSail_nx (I := I) (L := L) d (i := 21) hS (by decide) ht).to ?_
    rintro _ _ ⟨rfl, rfl⟩
    rw [show q_sail T t = (-1, T.x) from by unfold q_sail; rw [if_neg ht]]
    exact ⟨rfl, _, rfl, hK.sh0⟩
theorem k_rem {n : Nat} {sl : Nat × Nat} {kd : Nat → Nat × Nat} {I : Nat → Nat → Int32} {L : Nat → Nat → Int64} {Rf : Nat → Nat → Option Nat} (d : Nat) {T : zT} {H : Nat} {I0 g : Nat → Nat → Int32} {L0 : Nat → Nat → Int64} {R0 : Nat → Nat → Option Nat} {G : Option (Nat → Int32)} {y : Nat → Int32} {w : Bool} (hK : zK n kd I0 L0 R0 g I L Rf T G (some y) w) (hO : zOk H T) (a : Int32) : zq mX10_remembered (d + 20) [.ref 0, .int a] (n, sl, kd, I, L, Rf) (zpK n sl kd I0 L0 R0 g L Rf (if a < 0 then T else T.w_un (zpush T.un y)) G (some y) w (some (.int a))) := by
  have hC := hK.C; have hF := hC.F; have hc7 := hO.c
  intro f B
  refine ez_meth pn_X.2.2.2.2.2.2.2.2.2.2.1 (Nat.le_of_ble_eq_true rfl) ?_
  show ez_P _ _ _ _ _ _ 0 [(0, .ref 0), (1, .int a)] [] (n, sl, kd, I, L, Rf) _
  refine ez_iload_n (i := 1) dX10_remembered_0 rfl rfl ?_
  refine ez_if_lt (tgt := 15) dX10_remembered_1 (by decide) (fun c1 => ?_) (fun c1 => ?_)
  · skip
    refine ez_iload_n (i := 1) dX10_remembered_15 rfl rfl ?_
    refine ez_iret dX10_remembered_16 rfl rfl ?_
    exact ⟨rfl, _, rfl, by rw [if_pos c1]; exact hK⟩
  · skip
    refine ez_aload_n (i := 0) dX10_remembered_4 rfl rfl ?_
    refine ez_getR dX10_remembered_5 flX10_46 (hF.lt (by decide)) (hF.kc (by decide) rfl) (hF.pt 30 rfl) ?_
    refine ez_aload_n (i := 0) dX10_remembered_8 rfl rfl ?_
    refine ez_getR dX10_remembered_9 flX10_40 (hF.lt (by decide)) (hF.kc (by decide) rfl) (hF.pt 29 rfl) ?_
    refine ez_callV (M1 := mX2_add) (rest := []) dX10_remembered_12 mlX10_198 mvX2_add rfl (hF.lt (by decide)) (hF.kc (by decide) rfl) (Nat.le_of_ble_eq_true rfl) rfl (k_past (T := T) (I := I) (L := L) (d + 18) hK.C hO.unl hO.c (hK.bf _ rfl)) k_po_ok ?_
    rintro _ _ ⟨rfl, I2, rfl, hs3, hn4⟩
    show ez_P _ _ _ _ _ _ 15 [(0, .ref 0), (1, .int a)] [] (n, sl, kd, I2, L, Rf) _
    have hK5 : zK n kd I0 L0 R0 g I2 L Rf (T.w_un (zpush T.un y)) G (some y) w := by exact hK.unn hs3 hn4
    refine ez_iload_n (i := 1) dX10_remembered_15 rfl rfl ?_
    refine ez_iret dX10_remembered_16 rfl rfl ?_
    exact ⟨rfl, _, rfl, by rw [if_neg c1]; exact hK5⟩
theorem zOk.wx {H : Nat} {T : zT} (h : zOk H T) {y : Nat → Int32} (hy : zxr T.c H y) : zOk H (T.w_x y) := ⟨h.txl, h.tx, h.rwl, h.pr, h.wm, h.wd, h.c, hy, h.unl, h.un, h.kp, h.snl, h.sn, h.hdl, h.hd, h.rv⟩
theorem zxr.gra {c H : Nat} {x : Nat → Int32} (h : zxr c H x) (hc : c ≤ 7) {b : Nat} (hb0 : b < 7) {v : Int32} (hv : ∃ k, k < 10 ∧ v = nI k) : zxr c H (zup x b v) :=
  ⟨fun q hb => by
    by_cases e : q = b
    · rw [e, zup_at]; exact hv
    · rw [zup_ne e]; exact h.g q hb, fun q hb => by rw [zup_ne (by omega)]; exact h.t q hb, fun q hb => by rw [zup_ne (by omega)]; exact h.p q hb, by rw [zup_ne (by omega)]; exact h.s, by rw [zup_ne (by omega)]; exact h.l, by rw [zup_ne (by omega)]; exact h.lg, by rw [zup_ne (by omega)]; exact h.ov, by rw [zup_ne (by omega)]; exact h.h⟩
theorem z_ea_k : ∀ k, k < 10 → nI k ≠ 0 → ∃ q, q < 10 ∧ nI k - 1 = nI q := by decide +kernel
theorem z_pa_k : ∀ k, k < 10 → ∀ t, t < 10 → ∃ q, q < 10 ∧ z_mn 9 (nI k + nI t) = nI q := by decide +kernel
theorem q_tell_xr {T : zT} {H : Nat} (hO : zOk H T) (b t : Int32) : zxr T.c H (q_tell T b t).2 := by
  unfold q_tell
  split
  · next h =>
    obtain ⟨b0, hb, rfl⟩ := pk_of (by have := hO.c; omega) h.1.1 h.1.2
    obtain ⟨q, _, hq, rfl⟩ := z_pk1 (lo := 0) (N := 5) h.2 (by decide) (by decide)
    split
    · exact hO.x
    · rw [nI_clamp (by have := hO.c; omega)]; exact hO.x.tho hO.c (by have := hO.c; omega) ⟨q, by omega, rfl⟩
  · exact hO.x
theorem q_move_xr {T : zT} {H : Nat} (hO : zOk H T) (b t : Int32) : zxr T.c H (q_move T b t).2 := by
  unfold q_move
  split
  · next h =>
    obtain ⟨b0, hb, rfl⟩ := pk_of (by have := hO.c; omega) h.1.1 h.1.2
    split
    · exact hO.x
    · rw [nI_clamp (by have := hO.c; omega)]; exact hO.x.pla hO.c (by have := hO.c; omega) (z_5k h.2)
  · exact hO.x
theorem q_ease_xr {T : zT} {H : Nat} (hO : zOk H T) (b : Int32) : zxr T.c H (q_ease T b).2 := by
  unfold q_ease
  split
  · next h =>
    obtain ⟨b0, hb, rfl⟩ := pk_of (by have := hO.c; omega) h.1 h.2
    rw [nI_clamp (by have := hO.c; omega)]
    split
    · exact hO.x
    · next h2 =>
      obtain ⟨k, hk, e⟩ := hO.x.g b0 hb
      exact hO.x.gra hO.c (by have := hO.c; omega) (by rw [e] at h2 ⊢; exact z_ea_k k hk h2)
  · exact hO.x
theorem q_preach_xr {T : zT} {H : Nat} (hO : zOk H T) (b t : Int32) : zxr T.c H (q_preach T b t).2 := by
  unfold q_preach
  split
  · next h =>
    obtain ⟨b0, hb, rfl⟩ := pk_of (by have := hO.c; omega) h.1.1 h.1.2
    obtain ⟨q, _, hq, rfl⟩ := z_pk1 (lo := 1) (N := 9) h.2 (by decide) (by decide)
    rw [nI_clamp (by have := hO.c; omega)]
    split
    · exact hO.x
    · obtain ⟨k, hk, e⟩ := hO.x.g b0 hb
      exact hO.x.gra hO.c (by have := hO.c; omega) (by rw [e]; exact z_pa_k k hk q (by omega))
  · exact hO.x
theorem q_sail_xr {T : zT} {H : Nat} (hO : zOk H T) (t : Int32) : zxr T.c H (q_sail T t).2 := by
  unfold q_sail
  split
  · next h =>
    obtain ⟨q, _, hq, rfl⟩ := z_pk1 (lo := 0) (N := 9) h (by decide) (by decide)
    split
    · exact hO.x
    · exact hO.x.sail hO.c ⟨q, by omega, rfl⟩
  · exact hO.x
theorem c_tells {n : Nat} {sl : Nat × Nat} {kd : Nat → Nat × Nat} {I : Nat → Nat → Int32} {L : Nat → Nat → Int64} {Rf : Nat → Nat → Option Nat} (d : Nat) {T : zT} {H : Nat} (hC : zC n kd I L Rf T) (hO : zOk H T) (hH : H ≤ 1000000000) (b t : Int32) : zq mX10_tells (d + 60) [.ref 0, .int b, .int t] (n, sl, kd, I, L, Rf) (zpC n sl kd I L Rf (some (.int (s_tells T b t).1)) (s_tells T b t).2) := by
  have hF := hC.F; have hc7 := hO.c
  have hK0 : zK n kd I L Rf I I L Rf T none none false := zK.start hC
  intro f B
  refine ez_meth pn_X.2.2.2.2.2.2.2.2.2.2.1 (Nat.le_of_ble_eq_true rfl) ?_
  show ez_P _ _ _ _ _ _ 0 [(0, .ref 0), (1, .int b), (2, .int t)] [] (n, sl, kd, I, L, Rf) _
  refine ez_aload_n (i := 0) dX10_tells_0 rfl rfl ?_
  refine ez_getR dX10_tells_1 flX10_40 (hF.lt (by decide)) (hF.kc (by decide) rfl) (hF.pt 29 rfl) ?_
  refine ez_aload_n (i := 0) dX10_tells_4 rfl rfl ?_
  refine ez_getR dX10_tells_5 flX10_33 (hF.lt (by decide)) (hF.kc (by decide) rfl) (hF.pt 21 rfl) ?_
  refine ez_callV (M1 := mX7_copy) (rest := []) dX10_tells_8 mlX10_188 mvX7_copy rfl (hF.lt (by decide)) (hF.kc (by decide) rfl) (Nat.le_of_ble_eq_true rfl) rfl (y_X7_copy (I := I) (L := L) (d + 59) (i := 29) (j := 21) (hF.shp (by decide)) (by decide) (hF.shp (by decide)) (by decide) (by decide) hK0.C.sh.cr hO.c) (eb_vok rfl) ?_
  rintro _ _ ⟨rfl, rfl⟩
  refine ez_nmI (fun I1 hI1 => ?_)
  show ez_P _ _ _ _ _ _ 11 [(0, .ref 0), (1, .int b), (2, .int t)] [] (n, sl, kd, I1, L, Rf) _
  have hK2 : zK n kd I L Rf I I1 L Rf T none (some T.x) false := by rw [hI1]; exact hK0.cpb
  refine ez_aload_n (i := 0) dX10_tells_11 rfl rfl ?_
  refine ez_aload_n (i := 0) dX10_tells_12 rfl rfl ?_
  refine ez_getR dX10_tells_13 flX10_33 (hF.lt (by decide)) (hF.kc (by decide) rfl) (hF.pt 21 rfl) ?_
  refine ez_iload_n (i := 1) dX10_tells_16 rfl rfl ?_
  refine ez_iload_n (i := 2) dX10_tells_17 rfl rfl ?_
  refine ez_callV (M1 := mX7_tell) (rest := [.ref 0]) dX10_tells_18 mlX10_211 mvX7_tell rfl (hF.lt (by decide)) (hF.kc (by decide) rfl) (Nat.le_of_ble_eq_true rfl) rfl (k_tell (T := T) (I := I1) (L := L) (d + 58) hK2 hO b t) zpX_ok ?_
  rintro _ _ ⟨rfl, I3, rfl, hK4⟩
  show ez_P _ _ _ _ _ _ 21 [(0, .ref 0), (1, .int b), (2, .int t)] (.int ((q_tell T b t).1) :: [.ref 0]) (n, sl, kd, I3, L, Rf) _
  have hK4 : zK n kd I L Rf I I3 L Rf (T.w_x (q_tell T b t).2) none (some T.x) false := hK4
  refine ez_callV (M1 := mX10_remembered) (rest := []) dX10_tells_21 mlX10_214 mvX10_remembered rfl (hF.lt (by decide)) (hF.kc (by decide) rfl) (Nat.le_of_ble_eq_true rfl) rfl (k_rem (T := T.w_x (q_tell T b t).2) (I := I3) (L := L) (d + 39) hK4 (hO.wx (q_tell_xr hO b t)) ((q_tell T b t).1)) zpK_ok ?_
  rintro _ _ ⟨rfl, I5, rfl, hK6⟩
  show ez_P _ _ _ _ _ _ 24 [(0, .ref 0), (1, .int b), (2, .int t)] (.int ((q_tell T b t).1) :: []) (n, sl, kd, I5, L, Rf) _
  have hK6 : zK n kd I L Rf I I5 L Rf (zrm T (q_tell T b t)) none (some T.x) false := hK6
  refine ez_iret dX10_tells_24 rfl rfl ?_
  rw [s_tells_q hO]; exact hK6.end
theorem c_moves {n : Nat} {sl : Nat × Nat} {kd : Nat → Nat × Nat} {I : Nat → Nat → Int32} {L : Nat → Nat → Int64} {Rf : Nat → Nat → Option Nat} (d : Nat) {T : zT} {H : Nat} (hC : zC n kd I L Rf T) (hO : zOk H T) (hH : H ≤ 1000000000) (b t : Int32) : zq mX10_moves (d + 60) [.ref 0, .int b, .int t] (n, sl, kd, I, L, Rf) (zpC n sl kd I L Rf (some (.int (s_moves T b t).1)) (s_moves T b t).2) := by
  have hF := hC.F; have hc7 := hO.c
  have hK0 : zK n kd I L Rf I I L Rf T none none false := zK.start hC
  intro f B
  refine ez_meth pn_X.2.2.2.2.2.2.2.2.2.2.1 (Nat.le_of_ble_eq_true rfl) ?_
  show ez_P _ _ _ _ _ _ 0 [(0, .ref 0), (1, .int b), (2, .int t)] [] (n, sl, kd, I, L, Rf) _
  refine ez_aload_n (i := 0) dX10_moves_0 rfl rfl ?_
  refine ez_getR dX10_moves_1 flX10_40 (hF.lt (by decide)) (hF.kc (by decide) rfl) (hF.pt 29 rfl) ?_
  refine ez_aload_n (i := 0) dX10_moves_4 rfl rfl ?_
  refine ez_getR dX10_moves_5 flX10_33 (hF.lt (by decide)) (hF.kc (by decide) rfl) (hF.pt 21 rfl) ?_
  refine ez_callV (M1 := mX7_copy) (rest := []) dX10_moves_8 mlX10_188 mvX7_copy rfl (hF.lt (by decide)) (hF.kc (by decide) rfl) (Nat.le_of_ble_eq_true rfl) rfl (y_X7_copy (I := I) (L := L) (d + 59) (i := 29) (j := 21) (hF.shp (by decide)) (by decide) (hF.shp (by decide)) (by decide) (by decide) hK0.C.sh.cr hO.c) (eb_vok rfl) ?_
  rintro _ _ ⟨rfl, rfl⟩
  refine ez_nmI (fun I1 hI1 => ?_)
  show ez_P _ _ _ _ _ _ 11 [(0, .ref 0), (1, .int b), (2, .int t)] [] (n, sl, kd, I1, L, Rf) _
  have hK2 : zK n kd I L Rf I I1 L Rf T none (some T.x) false := by rw [hI1]; exact hK0.cpb
  refine ez_aload_n (i := 0) dX10_moves_11 rfl rfl ?_
  refine ez_aload_n (i := 0) dX10_moves_12 rfl rfl ?_
  refine ez_getR dX10_moves_13 flX10_33 (hF.lt (by decide)) (hF.kc (by decide) rfl) (hF.pt 21 rfl) ?_
  refine ez_iload_n (i := 1) dX10_moves_16 rfl rfl ?_
  refine ez_iload_n (i := 2) dX10_moves_17 rfl rfl ?_
  refine ez_callV (M1 := mX7_move) (rest := [.ref 0]) dX10_moves_18 mlX10_217 mvX7_move rfl (hF.lt (by decide)) (hF.kc (by decide) rfl) (Nat.le_of_ble_eq_true rfl) rfl (k_move (T := T) (I := I1) (L := L) (d + 58) hK2 hO b t) zpX_ok ?_
  rintro _ _ ⟨rfl, I3, rfl, hK4⟩
  show ez_P _ _ _ _ _ _ 21 [(0, .ref 0), (1, .int b), (2, .int t)] (.int ((q_move T b t).1) :: [.ref 0]) (n, sl, kd, I3, L, Rf) _
  have hK4 : zK n kd I L Rf I I3 L Rf (T.w_x (q_move T b t).2) none (some T.x) false := hK4
  refine ez_callV (M1 := mX10_remembered) (rest := []) dX10_moves_21 mlX10_214 mvX10_remembered rfl (hF.lt (by decide)) (hF.kc (by decide) rfl) (Nat.le_of_ble_eq_true rfl) rfl (k_rem (T := T.w_x (q_move T b t).2) (I := I3) (L := L) (d + 39) hK4 (hO.wx (q_move_xr hO b t)) ((q_move T b t).1)) zpK_ok ?_
  rintro _ _ ⟨rfl, I5, rfl, hK6⟩
  show ez_P _ _ _ _ _ _ 24 [(0, .ref 0), (1, .int b), (2, .int t)] (.int ((q_move T b t).1) :: []) (n, sl, kd, I5, L, Rf) _
  have hK6 : zK n kd I L Rf I I5 L Rf (zrm T (q_move T b t)) none (some T.x) false := hK6
  refine ez_iret dX10_moves_24 rfl rfl ?_
  rw [s_moves_q hO]; exact hK6.end
theorem c_eases {n : Nat} {sl : Nat × Nat} {kd : Nat → Nat × Nat} {I : Nat → Nat → Int32} {L : Nat → Nat → Int64} {Rf : Nat → Nat → Option Nat} (d : Nat) {T : zT} {H : Nat} (hC : zC n kd I L Rf T) (hO : zOk H T) (hH : H ≤ 1000000000) (b : Int32) : zq mX10_eases (d + 60) [.ref 0, .int b] (n, sl, kd, I, L, Rf) (zpC n sl kd I L Rf (some (.int (s_eases T b).1)) (s_eases T b).2) := by
  have hF := hC.F; have hc7 := hO.c
  have hK0 : zK n kd I L Rf I I L Rf T none none false := zK.start hC
  intro f B
  refine ez_meth pn_X.2.2.2.2.2.2.2.2.2.2.1 (Nat.le_of_ble_eq_true rfl) ?_
  show ez_P _ _ _ _ _ _ 0 [(0, .ref 0), (1, .int b)] [] (n, sl, kd, I, L, Rf) _
  refine ez_aload_n (i := 0) dX10_eases_0 rfl rfl ?_
  refine ez_getR dX10_eases_1 flX10_40 (hF.lt (by decide)) (hF.kc (by decide) rfl) (hF.pt 29 rfl) ?_
  refine ez_aload_n (i := 0) dX10_eases_4 rfl rfl ?_
  refine ez_getR dX10_eases_5 flX10_33 (hF.lt (by decide)) (hF.kc (by decide) rfl) (hF.pt 21 rfl) ?_
  refine ez_callV (M1 := mX7_copy) (rest := []) dX10_eases_8 mlX10_188 mvX7_copy rfl (hF.lt (by decide)) (hF.kc (by decide) rfl) (Nat.le_of_ble_eq_true rfl) rfl (y_X7_copy (I := I) (L := L) (d + 59) (i := 29) (j := 21) (hF.shp (by decide)) (by decide) (hF.shp (by decide)) (by decide) (by decide) hK0.C.sh.cr hO.c) (eb_vok rfl) ?_
  rintro _ _ ⟨rfl, rfl⟩
  refine ez_nmI (fun I1 hI1 => ?_)
  show ez_P _ _ _ _ _ _ 11 [(0, .ref 0), (1, .int b)] [] (n, sl, kd, I1, L, Rf) _
  have hK2 : zK n kd I L Rf I I1 L Rf T none (some T.x) false := by rw [hI1]; exact hK0.cpb
  refine ez_aload_n (i := 0) dX10_eases_11 rfl rfl ?_
  refine ez_aload_n (i := 0) dX10_eases_12 rfl rfl ?_
  refine ez_getR dX10_eases_13 flX10_33 (hF.lt (by decide)) (hF.kc (by decide) rfl) (hF.pt 21 rfl) ?_
  refine ez_iload_n (i := 1) dX10_eases_16 rfl rfl ?_
  refine ez_callV (M1 := mX7_ease) (rest := [.ref 0]) dX10_eases_17 mlX10_220 mvX7_ease rfl (hF.lt (by decide)) (hF.kc (by decide) rfl) (Nat.le_of_ble_eq_true rfl) rfl (k_ease (T := T) (I := I1) (L := L) (d + 58) hK2 hO b) zpX_ok ?_
  rintro _ _ ⟨rfl, I3, rfl, hK4⟩
  show ez_P _ _ _ _ _ _ 20 [(0, .ref 0), (1, .int b)] (.int ((q_ease T b).1) :: [.ref 0]) (n, sl, kd, I3, L, Rf) _
  have hK4 : zK n kd I L Rf I I3 L Rf (T.w_x (q_ease T b).2) none (some T.x) false := hK4
  refine ez_callV (M1 := mX10_remembered) (rest := []) dX10_eases_20 mlX10_214 mvX10_remembered rfl (hF.lt (by decide)) (hF.kc (by decide) rfl) (Nat.le_of_ble_eq_true rfl) rfl (k_rem (T := T.w_x (q_ease T b).2) (I := I3) (L := L) (d + 39) hK4 (hO.wx (q_ease_xr hO b)) ((q_ease T b).1)) zpK_ok ?_
  rintro _ _ ⟨rfl, I5, rfl, hK6⟩
  show ez_P _ _ _ _ _ _ 23 [(0, .ref 0), (1, .int b)] (.int ((q_ease T b).1) :: []) (n, sl, kd, I5, L, Rf) _
  have hK6 : zK n kd I L Rf I I5 L Rf (zrm T (q_ease T b)) none (some T.x) false := hK6
  refine ez_iret dX10_eases_23 rfl rfl ?_
  rw [s_eases_q hO]; exact hK6.end
theorem c_preaches {n : Nat} {sl : Nat × Nat} {kd : Nat → Nat × Nat} {I : Nat → Nat → Int32} {L : Nat → Nat → Int64} {Rf : Nat → Nat → Option Nat} (d : Nat) {T : zT} {H : Nat} (hC : zC n kd I L Rf T) (hO : zOk H T) (hH : H ≤ 1000000000) (b t : Int32) : zq mX10_preaches (d + 60) [.ref 0, .int b, .int t] (n, sl, kd, I, L, Rf) (zpC n sl kd I L Rf (some (.int (s_preaches T b t).1)) (s_preaches T b t).2) := by
  have hF := hC.F; have hc7 := hO.c
  have hK0 : zK n kd I L Rf I I L Rf T none none false := zK.start hC
  intro f B
  refine ez_meth pn_X.2.2.2.2.2.2.2.2.2.2.1 (Nat.le_of_ble_eq_true rfl) ?_
  show ez_P _ _ _ _ _ _ 0 [(0, .ref 0), (1, .int b), (2, .int t)] [] (n, sl, kd, I, L, Rf) _
  refine ez_aload_n (i := 0) dX10_preaches_0 rfl rfl ?_
  refine ez_getR dX10_preaches_1 flX10_40 (hF.lt (by decide)) (hF.kc (by decide) rfl) (hF.pt 29 rfl) ?_
  refine ez_aload_n (i := 0) dX10_preaches_4 rfl rfl ?_
  refine ez_getR dX10_preaches_5 flX10_33 (hF.lt (by decide)) (hF.kc (by decide) rfl) (hF.pt 21 rfl) ?_
  refine ez_callV (M1 := mX7_copy) (rest := []) dX10_preaches_8 mlX10_188 mvX7_copy rfl (hF.lt (by decide)) (hF.kc (by decide) rfl) (Nat.le_of_ble_eq_true rfl) rfl (y_X7_copy (I := I) (L := L) (d + 59) (i := 29) (j := 21) (hF.shp (by decide)) (by decide) (hF.shp (by decide)) (by decide) (by decide) hK0.C.sh.cr hO.c) (eb_vok rfl) ?_
  rintro _ _ ⟨rfl, rfl⟩
  refine ez_nmI (fun I1 hI1 => ?_)
  show ez_P _ _ _ _ _ _ 11 [(0, .ref 0), (1, .int b), (2, .int t)] [] (n, sl, kd, I1, L, Rf) _
  have hK2 : zK n kd I L Rf I I1 L Rf T none (some T.x) false := by rw [hI1]; exact hK0.cpb
  refine ez_aload_n (i := 0) dX10_preaches_11 rfl rfl ?_
  refine ez_aload_n (i := 0) dX10_preaches_12 rfl rfl ?_
  refine ez_getR dX10_preaches_13 flX10_33 (hF.lt (by decide)) (hF.kc (by decide) rfl) (hF.pt 21 rfl) ?_
  refine ez_iload_n (i := 1) dX10_preaches_16 rfl rfl ?_
  refine ez_iload_n (i := 2) dX10_preaches_17 rfl rfl ?_
  refine ez_callV (M1 := mX7_preach) (rest := [.ref 0]) dX10_preaches_18 mlX10_223 mvX7_preach rfl (hF.lt (by decide)) (hF.kc (by decide) rfl) (Nat.le_of_ble_eq_true rfl) rfl (k_preach (T := T) (I := I1) (L := L) (d + 58) hK2 hO b t) zpX_ok ?_
  rintro _ _ ⟨rfl, I3, rfl, hK4⟩
  show ez_P _ _ _ _ _ _ 21 [(0, .ref 0), (1, .int b), (2, .int t)] (.int ((q_preach T b t).1) :: [.ref 0]) (n, sl, kd, I3, L, Rf) _
  have hK4 : zK n kd I L Rf I I3 L Rf (T.w_x (q_preach T b t).2) none (some T.x) false := hK4
  refine ez_callV (M1 := mX10_remembered) (rest := []) dX10_preaches_21 mlX10_214 mvX10_remembered rfl (hF.lt (by decide)) (hF.kc (by decide) rfl) (Nat.le_of_ble_eq_true rfl) rfl (k_rem (T := T.w_x (q_preach T b t).2) (I := I3) (L := L) (d + 39) hK4 (hO.wx (q_preach_xr hO b t)) ((q_preach T b t).1)) zpK_ok ?_
  rintro _ _ ⟨rfl, I5, rfl, hK6⟩
  show ez_P _ _ _ _ _ _ 24 [(0, .ref 0), (1, .int b), (2, .int t)] (.int ((q_preach T b t).1) :: []) (n, sl, kd, I5, L, Rf) _
  have hK6 : zK n kd I L Rf I I5 L Rf (zrm T (q_preach T b t)) none (some T.x) false := hK6
  refine ez_iret dX10_preaches_24 rfl rfl ?_
  rw [s_preaches_q hO]; exact hK6.end
theorem c_sails {n : Nat} {sl : Nat × Nat} {kd : Nat → Nat × Nat} {I : Nat → Nat → Int32} {L : Nat → Nat → Int64} {Rf : Nat → Nat → Option Nat} (d : Nat) {T : zT} {H : Nat} (hC : zC n kd I L Rf T) (hO : zOk H T) (hH : H ≤ 1000000000) (t : Int32) : zq mX10_sails (d + 60) [.ref 0, .int t] (n, sl, kd, I, L, Rf) (zpC n sl kd I L Rf (some (.int (s_sails T t).1)) (s_sails T t).2) := by
  have hF := hC.F; have hc7 := hO.c
  have hK0 : zK n kd I L Rf I I L Rf T none none false := zK.start hC
  intro f B
  refine ez_meth pn_X.2.2.2.2.2.2.2.2.2.2.1 (Nat.le_of_ble_eq_true rfl) ?_
  show ez_P _ _ _ _ _ _ 0 [(0, .ref 0), (1, .int t)] [] (n, sl, kd, I, L, Rf) _
  refine ez_aload_n (i := 0) dX10_sails_0 rfl rfl ?_
  refine ez_getR dX10_sails_1 flX10_40 (hF.lt (by decide)) (hF.kc (by decide) rfl) (hF.pt 29 rfl) ?_
  refine ez_aload_n (i := 0) dX10_sails_4 rfl rfl ?_
  refine ez_getR dX10_sails_5 flX10_33 (hF.lt (by decide)) (hF.kc (by decide) rfl) (hF.pt 21 rfl) ?_
  refine ez_callV (M1 := mX7_copy) (rest := []) dX10_sails_8 mlX10_188 mvX7_copy rfl (hF.lt (by decide)) (hF.kc (by decide) rfl) (Nat.le_of_ble_eq_true rfl) rfl (y_X7_copy (I := I) (L := L) (d + 59) (i := 29) (j := 21) (hF.shp (by decide)) (by decide) (hF.shp (by decide)) (by decide) (by decide) hK0.C.sh.cr hO.c) (eb_vok rfl) ?_
  rintro _ _ ⟨rfl, rfl⟩
  refine ez_nmI (fun I1 hI1 => ?_)
  show ez_P _ _ _ _ _ _ 11 [(0, .ref 0), (1, .int t)] [] (n, sl, kd, I1, L, Rf) _
  have hK2 : zK n kd I L Rf I I1 L Rf T none (some T.x) false := by rw [hI1]; exact hK0.cpb
  refine ez_aload_n (i := 0) dX10_sails_11 rfl rfl ?_
  refine ez_aload_n (i := 0) dX10_sails_12 rfl rfl ?_
  refine ez_getR dX10_sails_13 flX10_33 (hF.lt (by decide)) (hF.kc (by decide) rfl) (hF.pt 21 rfl) ?_
  refine ez_iload_n (i := 1) dX10_sails_16 rfl rfl ?_
  refine ez_callV (M1 := mX7_setSail) (rest := [.ref 0]) dX10_sails_17 mlX10_226 mvX7_setSail rfl (hF.lt (by decide)) (hF.kc (by decide) rfl) (Nat.le_of_ble_eq_true rfl) rfl (k_sail (T := T) (I := I1) (L := L) (d + 58) hK2 hO t) zpX_ok ?_
  rintro _ _ ⟨rfl, I3, rfl, hK4⟩
  show ez_P _ _ _ _ _ _ 20 [(0, .ref 0), (1, .int t)] (.int ((q_sail T t).1) :: [.ref 0]) (n, sl, kd, I3, L, Rf) _
  have hK4 : zK n kd I L Rf I I3 L Rf (T.w_x (q_sail T t).2) none (some T.x) false := hK4
  refine ez_callV (M1 := mX10_remembered) (rest := []) dX10_sails_20 mlX10_214 mvX10_remembered rfl (hF.lt (by decide)) (hF.kc (by decide) rfl) (Nat.le_of_ble_eq_true rfl) rfl (k_rem (T := T.w_x (q_sail T t).2) (I := I3) (L := L) (d + 39) hK4 (hO.wx (q_sail_xr hO t)) ((q_sail T t).1)) zpK_ok ?_
  rintro _ _ ⟨rfl, I5, rfl, hK6⟩
  show ez_P _ _ _ _ _ _ 23 [(0, .ref 0), (1, .int t)] (.int ((q_sail T t).1) :: []) (n, sl, kd, I5, L, Rf) _
  have hK6 : zK n kd I L Rf I I5 L Rf (zrm T (q_sail T t)) none (some T.x) false := hK6
  refine ez_iret dX10_sails_23 rfl rfl ?_
  rw [s_sails_q hO]; exact hK6.end
theorem c_hours_z {n : Nat} {sl : Nat × Nat} {kd : Nat → Nat × Nat} {I : Nat → Nat → Int32} {L : Nat → Nat → Int64} {Rf : Nat → Nat → Option Nat} (d : Nat) {T : zT} {H : Nat} (hC : zC n kd I L Rf T) (hO : zOk H T) (hH : H ≤ 1000000000) {n0 : Nat} (hn : n0 ≤ 60) (h0 : n0 = 0) (f : Nat) (B : Nat → Int32) : ez_Q (f + 100) B f (fun _ => True) mX10_hours (d + 60) [.ref 0, .int (nI n0)] (n, sl, kd, I, L, Rf) (zpC n sl kd I L Rf (some (.int (s_hours T (nI n0)).1)) (s_hours T (nI n0)).2) := by
  have hF := hC.F; have hc7 := hO.c
  have hK0 : zK n kd I L Rf I I L Rf T none none false := zK.start hC
  have hsp : s_hours T (nI n0) = (100 + zhk T T.x n0 22, (T.w_x (zhk T T.x n0)).w_rw [(zhk T T.x n0 23 - T.x 23).toInt64, (zhc T T.x n0).toInt64]) := (by unfold s_hours; rw [if_pos ⟨(z_n9 (N := 60) hn (by decide)).1, (z_n9 (N := 60) hn (by decide)).2⟩, nI_clamp (by omega), if_pos h0])
  rw [hsp]
  refine ez_meth pn_X.2.2.2.2.2.2.2.2.2.2.1 (Nat.le_of_ble_eq_true rfl) ?_
  show ez_P _ _ _ _ _ _ 0 [(0, .ref 0), (1, .int (nI n0))] [] (n, sl, kd, I, L, Rf) _
  refine ez_iload_n (i := 1) dX10_hours_0 rfl rfl ?_
  refine ez_iconst (v := 0) dX10_hours_1 (by decide) ?_
  refine ez_bipush (v := 60) dX10_hours_2 (by decide) ?_
  refine ez_callS (M1 := mX10_within) (rest := []) dX10_hours_4 mlX10_158 msX10_within rfl (Nat.le_of_ble_eq_true rfl) rfl (zq_b1 (z_n9 (N := 60) hn (by decide)) (zq_b (q_X10_within (d + 59) (nI n0) 0 60) (n, sl, kd, I, L, Rf))) eb_rok ?_
  rintro _ _ ⟨rfl, rfl⟩
  show ez_P _ _ _ _ _ _ 7 [(0, .ref 0), (1, .int (nI n0))] (.int 1 :: []) _ _
  refine ez_if_ne (tgt := 12) dX10_hours_7 (by decide) (fun c1 => ?_) (fun c1 => absurd (by decide) c1)
  refine ez_aload_n (i := 0) dX10_hours_12 rfl rfl ?_
  refine ez_getR dX10_hours_13 flX10_40 (hF.lt (by decide)) (hF.kc (by decide) rfl) (hF.pt 29 rfl) ?_
  refine ez_aload_n (i := 0) dX10_hours_16 rfl rfl ?_
  refine ez_getR dX10_hours_17 flX10_33 (hF.lt (by decide)) (hF.kc (by decide) rfl) (hF.pt 21 rfl) ?_
  refine ez_callV (M1 := mX7_copy) (rest := []) dX10_hours_20 mlX10_188 mvX7_copy rfl (hF.lt (by decide)) (hF.kc (by decide) rfl) (Nat.le_of_ble_eq_true rfl) rfl (y_X7_copy (I := I) (L := L) (d + 59) (i := 29) (j := 21) (hF.shp (by decide)) (by decide) (hF.shp (by decide)) (by decide) (by decide) hK0.C.sh.cr hO.c) (eb_vok rfl) ?_
  rintro _ _ ⟨rfl, rfl⟩
  refine ez_nmI (fun I2 hI2 => ?_)
  show ez_P _ _ _ _ _ _ 23 [(0, .ref 0), (1, .int (nI n0))] [] (n, sl, kd, I2, L, Rf) _
  have hK3 : zK n kd I L Rf I I2 L Rf T none (some T.x) false := by rw [hI2]; exact hK0.cpb
  refine ez_aload_n (i := 0) dX10_hours_23 rfl rfl ?_
  refine ez_getR dX10_hours_24 flX10_26 (hF.lt (by decide)) (hF.kc (by decide) rfl) (hF.pt 4 rfl) ?_
  refine ez_callVm (M1 := mX6_begin) (rest := []) dX10_hours_27 mlX10_192 mvX6_begin rfl (hF.lt (by decide)) (hF.kc (by decide) rfl) (Nat.le_of_ble_eq_true rfl) rfl (k_begin (T := T) (I := I2) (L := L) (d + 59) hK3.C (f + 99) _ (zBm T T.x)) (eb_vok rfl) ?_
  rintro _ _ _ rfl ⟨rfl, rfl⟩
  show ez_P _ _ _ _ _ _ 30 [(0, .ref 0), (1, .int (nI n0))] [] (n, sl, kd, I2, L, Rf) _
  refine ez_aload_n (i := 0) dX10_hours_30 rfl rfl ?_
  refine ez_getR dX10_hours_31 flX10_26 (hF.lt (by decide)) (hF.kc (by decide) rfl) (hF.pt 4 rfl) ?_
  refine ez_aload_n (i := 0) dX10_hours_34 rfl rfl ?_
  refine ez_getR dX10_hours_35 flX10_33 (hF.lt (by decide)) (hF.kc (by decide) rfl) (hF.pt 21 rfl) ?_
  refine ez_iload_n (i := 1) dX10_hours_38 rfl rfl ?_
  refine ez_callVm (M1 := mX6_letHoursGo) (rest := []) dX10_hours_39 mlX10_195 mvX6_letHoursGo rfl (hF.lt (by decide)) (hF.kc (by decide) rfl) (Nat.le_of_ble_eq_true rfl) rfl (k_let (T := T) (I := I2) (L := L) (d + 54) hK3.C hO (j := 21) (by decide) hK3.C.sh hO.x (by omega) (N := n0) (by omega) (y := T.x) (fun _ _ => rfl) (f + 99)) k_hp_ok ?_
  rintro _ _ _ rfl ⟨rfl, I4, rfl, hs5, hn6⟩
  show ez_P _ _ _ _ _ _ 42 [(0, .ref 0), (1, .int (nI n0))] (.int (zhc T T.x n0) :: []) (n, sl, kd, I4, L, Rf) _
  have hK7 : zK n kd I L Rf I I4 L Rf (T.w_x (zhk T T.x n0)) none (some T.x) false := by exact hK3.sh hs5 (fun c hc => hn6 c (by omega))
  refine ez_istore_n (l' := [(2, .int (zhc T T.x n0)), (0, .ref 0), (1, .int (nI n0))]) dX10_hours_42 rfl (by decide) rfl ?_
  refine ez_iload_n (i := 1) dX10_hours_43 rfl rfl ?_
  refine ez_if_le (tgt := 58) dX10_hours_44 (by decide) (fun c8 => ?_) (fun c8 => absurd (by rw [h0]; decide) c8)
  refine ez_aload_n (i := 0) dX10_hours_58 rfl rfl ?_
  refine ez_getR dX10_hours_59 flX10_19 (hF.lt (by decide)) (hF.kc (by decide) rfl) (hF.pt 3 rfl) ?_
  refine ez_aload_n (i := 0) dX10_hours_62 rfl rfl ?_
  refine ez_getR dX10_hours_63 flX10_33 (hF.lt (by decide)) (hF.kc (by decide) rfl) (hF.pt 21 rfl) ?_
  refine ez_getI dX10_hours_66 flX10_201 (hF.lt (by decide)) (hF.kc (by decide) rfl) ?_
  refine ez_topE (y := (zhk T T.x n0) 23) hK7.C.sh.lg ?_
  refine ez_aload_n (i := 0) dX10_hours_69 rfl rfl ?_
  refine ez_getR dX10_hours_70 flX10_40 (hF.lt (by decide)) (hF.kc (by decide) rfl) (hF.pt 29 rfl) ?_
  refine ez_getI dX10_hours_73 flX10_201 (hF.lt (by decide)) (hF.kc (by decide) rfl) ?_
  refine ez_topE (y := T.x 23) (hK7.bf _ rfl).lg ?_
  refine ez_isub dX10_hours_76 ?_
  refine ez_iload_n (i := 2) dX10_hours_77 rfl rfl ?_
  refine ez_callV (M1 := mX4_tell_) (rest := []) dX10_hours_78 mlX10_204 mvX4_tell_ rfl (hF.lt (by decide)) (hF.kc (by decide) rfl) (Nat.le_of_ble_eq_true rfl) rfl (y_X4_tell_ (I := I4) (L := L) (d + 58) hF (((zhk T T.x n0) 23) - (T.x 23)) (zhc T T.x n0)) z_tok ?_
  rintro _ _ ⟨rfl, I9, L10, rfl, hr11, ho12⟩
  show ez_P _ _ _ _ _ _ 81 [(2, .int (zhc T T.x n0)), (0, .ref 0), (1, .int (nI n0))] [] (n, sl, kd, I9, L10, Rf) _
  have hK13 : zK n kd I L Rf I I9 L10 Rf ((T.w_x (zhk T T.x n0)).w_rw [(((zhk T T.x n0) 23) - (T.x 23)).toInt64, (zhc T T.x n0).toInt64]) none (some T.x) false := by exact hK7.tell hr11 ho12
  refine ez_bipush (v := 100) dX10_hours_81 (by decide) ?_
  refine ez_aload_n (i := 0) dX10_hours_83 rfl rfl ?_
  refine ez_getR dX10_hours_84 flX10_33 (hF.lt (by decide)) (hF.kc (by decide) rfl) (hF.pt 21 rfl) ?_
  refine ez_getI dX10_hours_87 flX10_208 (hF.lt (by decide)) (hF.kc (by decide) rfl) ?_
  refine ez_topE (y := (zhk T T.x n0) 22) hK13.C.sh.l ?_
  refine ez_iadd dX10_hours_90 ?_
  refine ez_iret dX10_hours_91 rfl rfl ?_
  exact hK13.end
theorem c_hours_p {n : Nat} {sl : Nat × Nat} {kd : Nat → Nat × Nat} {I : Nat → Nat → Int32} {L : Nat → Nat → Int64} {Rf : Nat → Nat → Option Nat} (d : Nat) {T : zT} {H : Nat} (hC : zC n kd I L Rf T) (hO : zOk H T) (hH : H ≤ 1000000000) {n0 : Nat} (hn : n0 ≤ 60) (h0 : 0 < n0) (f : Nat) (B : Nat → Int32) : ez_Q (f + 100) B f (fun _ => True) mX10_hours (d + 60) [.ref 0, .int (nI n0)] (n, sl, kd, I, L, Rf) (zpC n sl kd I L Rf (some (.int (s_hours T (nI n0)).1)) (s_hours T (nI n0)).2) := by
  have hF := hC.F; have hc7 := hO.c
  have hK0 : zK n kd I L Rf I I L Rf T none none false := zK.start hC
  have hsp : s_hours T (nI n0) = (100 + zhk T T.x n0 22, ((T.w_un (zpush T.un T.x)).w_x (zhk T T.x n0)).w_rw [(zhk T T.x n0 23 - T.x 23).toInt64, (zhc T T.x n0).toInt64]) := (by unfold s_hours; rw [if_pos ⟨(z_n9 (N := 60) hn (by decide)).1, (z_n9 (N := 60) hn (by decide)).2⟩, nI_clamp (by omega), if_neg (by omega)])
  rw [hsp]
  refine ez_meth pn_X.2.2.2.2.2.2.2.2.2.2.1 (Nat.le_of_ble_eq_true rfl) ?_
  show ez_P _ _ _ _ _ _ 0 [(0, .ref 0), (1, .int (nI n0))] [] (n, sl, kd, I, L, Rf) _
  refine ez_iload_n (i := 1) dX10_hours_0 rfl rfl ?_
  refine ez_iconst (v := 0) dX10_hours_1 (by decide) ?_
  refine ez_bipush (v := 60) dX10_hours_2 (by decide) ?_
  refine ez_callS (M1 := mX10_within) (rest := []) dX10_hours_4 mlX10_158 msX10_within rfl (Nat.le_of_ble_eq_true rfl) rfl (zq_b1 (z_n9 (N := 60) hn (by decide)) (zq_b (q_X10_within (d + 59) (nI n0) 0 60) (n, sl, kd, I, L, Rf))) eb_rok ?_
  rintro _ _ ⟨rfl, rfl⟩
  show ez_P _ _ _ _ _ _ 7 [(0, .ref 0), (1, .int (nI n0))] (.int 1 :: []) _ _
  refine ez_if_ne (tgt := 12) dX10_hours_7 (by decide) (fun c1 => ?_) (fun c1 => absurd (by decide) c1)
  refine ez_aload_n (i := 0) dX10_hours_12 rfl rfl ?_
  refine ez_getR dX10_hours_13 flX10_40 (hF.lt (by decide)) (hF.kc (by decide) rfl) (hF.pt 29 rfl) ?_
  refine ez_aload_n (i := 0) dX10_hours_16 rfl rfl ?_
  refine ez_getR dX10_hours_17 flX10_33 (hF.lt (by decide)) (hF.kc (by decide) rfl) (hF.pt 21 rfl) ?_
  refine ez_callV (M1 := mX7_copy) (rest := []) dX10_hours_20 mlX10_188 mvX7_copy rfl (hF.lt (by decide)) (hF.kc (by decide) rfl) (Nat.le_of_ble_eq_true rfl) rfl (y_X7_copy (I := I) (L := L) (d + 59) (i := 29) (j := 21) (hF.shp (by decide)) (by decide) (hF.shp (by decide)) (by decide) (by decide) hK0.C.sh.cr hO.c) (eb_vok rfl) ?_
  rintro _ _ ⟨rfl, rfl⟩
  refine ez_nmI (fun I2 hI2 => ?_)
  show ez_P _ _ _ _ _ _ 23 [(0, .ref 0), (1, .int (nI n0))] [] (n, sl, kd, I2, L, Rf) _
  have hK3 : zK n kd I L Rf I I2 L Rf T none (some T.x) false := by rw [hI2]; exact hK0.cpb
  refine ez_aload_n (i := 0) dX10_hours_23 rfl rfl ?_
  refine ez_getR dX10_hours_24 flX10_26 (hF.lt (by decide)) (hF.kc (by decide) rfl) (hF.pt 4 rfl) ?_
  refine ez_callVm (M1 := mX6_begin) (rest := []) dX10_hours_27 mlX10_192 mvX6_begin rfl (hF.lt (by decide)) (hF.kc (by decide) rfl) (Nat.le_of_ble_eq_true rfl) rfl (k_begin (T := T) (I := I2) (L := L) (d + 59) hK3.C (f + 99) _ (zBm T T.x)) (eb_vok rfl) ?_
  rintro _ _ _ rfl ⟨rfl, rfl⟩
  show ez_P _ _ _ _ _ _ 30 [(0, .ref 0), (1, .int (nI n0))] [] (n, sl, kd, I2, L, Rf) _
  refine ez_aload_n (i := 0) dX10_hours_30 rfl rfl ?_
  refine ez_getR dX10_hours_31 flX10_26 (hF.lt (by decide)) (hF.kc (by decide) rfl) (hF.pt 4 rfl) ?_
  refine ez_aload_n (i := 0) dX10_hours_34 rfl rfl ?_
  refine ez_getR dX10_hours_35 flX10_33 (hF.lt (by decide)) (hF.kc (by decide) rfl) (hF.pt 21 rfl) ?_
  refine ez_iload_n (i := 1) dX10_hours_38 rfl rfl ?_
  refine ez_callVm (M1 := mX6_letHoursGo) (rest := []) dX10_hours_39 mlX10_195 mvX6_letHoursGo rfl (hF.lt (by decide)) (hF.kc (by decide) rfl) (Nat.le_of_ble_eq_true rfl) rfl (k_let (T := T) (I := I2) (L := L) (d + 54) hK3.C hO (j := 21) (by decide) hK3.C.sh hO.x (by omega) (N := n0) (by omega) (y := T.x) (fun _ _ => rfl) (f + 99)) k_hp_ok ?_
  rintro _ _ _ rfl ⟨rfl, I4, rfl, hs5, hn6⟩
  show ez_P _ _ _ _ _ _ 42 [(0, .ref 0), (1, .int (nI n0))] (.int (zhc T T.x n0) :: []) (n, sl, kd, I4, L, Rf) _
  have hK7 : zK n kd I L Rf I I4 L Rf (T.w_x (zhk T T.x n0)) none (some T.x) false := by exact hK3.sh hs5 (fun c hc => hn6 c (by omega))
  refine ez_istore_n (l' := [(2, .int (zhc T T.x n0)), (0, .ref 0), (1, .int (nI n0))]) dX10_hours_42 rfl (by decide) rfl ?_
  refine ez_iload_n (i := 1) dX10_hours_43 rfl rfl ?_
  refine ez_if_le (tgt := 58) dX10_hours_44 (by decide) (fun c8 => absurd c8 (nI_nle h0 (by omega))) (fun c8 => ?_)
  refine ez_aload_n (i := 0) dX10_hours_47 rfl rfl ?_
  refine ez_getR dX10_hours_48 flX10_46 (hF.lt (by decide)) (hF.kc (by decide) rfl) (hF.pt 30 rfl) ?_
  refine ez_aload_n (i := 0) dX10_hours_51 rfl rfl ?_
  refine ez_getR dX10_hours_52 flX10_40 (hF.lt (by decide)) (hF.kc (by decide) rfl) (hF.pt 29 rfl) ?_
  refine ez_callV (M1 := mX2_add) (rest := []) dX10_hours_55 mlX10_198 mvX2_add rfl (hF.lt (by decide)) (hF.kc (by decide) rfl) (Nat.le_of_ble_eq_true rfl) rfl (k_past (T := (T.w_x (zhk T T.x n0))) (I := I4) (L := L) (d + 58) hK7.C hO.unl hO.c (hK7.bf _ rfl)) k_po_ok ?_
  rintro _ _ ⟨rfl, I9, rfl, hs10, hn11⟩
  show ez_P _ _ _ _ _ _ 58 [(2, .int (zhc T T.x n0)), (0, .ref 0), (1, .int (nI n0))] [] (n, sl, kd, I9, L, Rf) _
  have hK12 : zK n kd I L Rf I I9 L Rf ((T.w_x (zhk T T.x n0)).w_un (zpush (T.w_x (zhk T T.x n0)).un T.x)) none (some T.x) false := by exact hK7.unn hs10 hn11
  refine ez_aload_n (i := 0) dX10_hours_58 rfl rfl ?_
  refine ez_getR dX10_hours_59 flX10_19 (hF.lt (by decide)) (hF.kc (by decide) rfl) (hF.pt 3 rfl) ?_
  refine ez_aload_n (i := 0) dX10_hours_62 rfl rfl ?_
  refine ez_getR dX10_hours_63 flX10_33 (hF.lt (by decide)) (hF.kc (by decide) rfl) (hF.pt 21 rfl) ?_
  refine ez_getI dX10_hours_66 flX10_201 (hF.lt (by decide)) (hF.kc (by decide) rfl) ?_
  refine ez_topE (y := (zhk T T.x n0) 23) hK12.C.sh.lg ?_
  refine ez_aload_n (i := 0) dX10_hours_69 rfl rfl ?_
  refine ez_getR dX10_hours_70 flX10_40 (hF.lt (by decide)) (hF.kc (by decide) rfl) (hF.pt 29 rfl) ?_
  refine ez_getI dX10_hours_73 flX10_201 (hF.lt (by decide)) (hF.kc (by decide) rfl) ?_
  refine ez_topE (y := T.x 23) (hK12.bf _ rfl).lg ?_
  refine ez_isub dX10_hours_76 ?_
  refine ez_iload_n (i := 2) dX10_hours_77 rfl rfl ?_
  refine ez_callV (M1 := mX4_tell_) (rest := []) dX10_hours_78 mlX10_204 mvX4_tell_ rfl (hF.lt (by decide)) (hF.kc (by decide) rfl) (Nat.le_of_ble_eq_true rfl) rfl (y_X4_tell_ (I := I9) (L := L) (d + 58) hF (((zhk T T.x n0) 23) - (T.x 23)) (zhc T T.x n0)) z_tok ?_
  rintro _ _ ⟨rfl, I13, L14, rfl, hr15, ho16⟩
  show ez_P _ _ _ _ _ _ 81 [(2, .int (zhc T T.x n0)), (0, .ref 0), (1, .int (nI n0))] [] (n, sl, kd, I13, L14, Rf) _
  have hK17 : zK n kd I L Rf I I13 L14 Rf (((T.w_x (zhk T T.x n0)).w_un (zpush (T.w_x (zhk T T.x n0)).un T.x)).w_rw [(((zhk T T.x n0) 23) - (T.x 23)).toInt64, (zhc T T.x n0).toInt64]) none (some T.x) false := by exact hK12.tell hr15 ho16
  refine ez_bipush (v := 100) dX10_hours_81 (by decide) ?_
  refine ez_aload_n (i := 0) dX10_hours_83 rfl rfl ?_
  refine ez_getR dX10_hours_84 flX10_33 (hF.lt (by decide)) (hF.kc (by decide) rfl) (hF.pt 21 rfl) ?_
  refine ez_getI dX10_hours_87 flX10_208 (hF.lt (by decide)) (hF.kc (by decide) rfl) ?_
  refine ez_topE (y := (zhk T T.x n0) 22) hK17.C.sh.l ?_
  refine ez_iadd dX10_hours_90 ?_
  refine ez_iret dX10_hours_91 rfl rfl ?_
  exact hK17.end
theorem c_hours_no {n : Nat} {sl : Nat × Nat} {kd : Nat → Nat × Nat} {I : Nat → Nat → Int32} {L : Nat → Nat → Int64} {Rf : Nat → Nat → Option Nat} (d : Nat) {T : zT} {H : Nat} (hC : zC n kd I L Rf T) (hO : zOk H T) (hH : H ≤ 1000000000) {v : Int32} (hn : ¬ (0 ≤ v ∧ v ≤ 60)) (f : Nat) (B : Nat → Int32) : ez_Q (f + 100) B f (fun _ => True) mX10_hours (d + 60) [.ref 0, .int v] (n, sl, kd, I, L, Rf) (zpC n sl kd I L Rf (some (.int (s_hours T v).1)) (s_hours T v).2) := by
  have hF := hC.F; have hc7 := hO.c
  have hK0 : zK n kd I L Rf I I L Rf T none none false := zK.start hC
  have hsp : s_hours T v = ((-1), T) := (by unfold s_hours; rw [if_neg hn])
  rw [hsp]
  refine ez_meth pn_X.2.2.2.2.2.2.2.2.2.2.1 (Nat.le_of_ble_eq_true rfl) ?_
  show ez_P _ _ _ _ _ _ 0 [(0, .ref 0), (1, .int v)] [] (n, sl, kd, I, L, Rf) _
  refine ez_iload_n (i := 1) dX10_hours_0 rfl rfl ?_
  refine ez_iconst (v := 0) dX10_hours_1 (by decide) ?_
  refine ez_bipush (v := 60) dX10_hours_2 (by decide) ?_
  refine ez_callS (M1 := mX10_within) (rest := []) dX10_hours_4 mlX10_158 msX10_within rfl (Nat.le_of_ble_eq_true rfl) rfl (zq_b0 hn (zq_b (q_X10_within (d + 59) v 0 60) (n, sl, kd, I, L, Rf))) eb_rok ?_
  rintro _ _ ⟨rfl, rfl⟩
  show ez_P _ _ _ _ _ _ 7 [(0, .ref 0), (1, .int v)] (.int 0 :: []) _ _
  refine ez_if_ne (tgt := 12) dX10_hours_7 (by decide) (fun c1 => absurd c1 (by decide)) (fun c1 => ?_)
  refine ez_iconst (v := (-1)) dX10_hours_10 (by decide) ?_
  refine ez_iret dX10_hours_11 rfl rfl ?_
  exact hK0.end
theorem c_hours {n : Nat} {sl : Nat × Nat} {kd : Nat → Nat × Nat} {I : Nat → Nat → Int32} {L : Nat → Nat → Int64} {Rf : Nat → Nat → Option Nat} (d : Nat) {T : zT} {H : Nat} (hC : zC n kd I L Rf T) (hO : zOk H T) (hH : H ≤ 1000000000) (v : Int32) (f : Nat) (B : Nat → Int32) : ez_Q (f + 100) B f (fun _ => True) mX10_hours (d + 60) [.ref 0, .int v] (n, sl, kd, I, L, Rf) (zpC n sl kd I L Rf (some (.int (s_hours T v).1)) (s_hours T v).2) := by
  by_cases hn : 0 ≤ v ∧ v ≤ 60
  · obtain ⟨n0, _, hn0, rfl⟩ := z_pk1 (lo := 0) (N := 60) hn (by decide) (by decide)
    by_cases h0 : n0 = 0
    · exact c_hours_z d hC hO hH hn0 h0 f B
    · exact c_hours_p d hC hO hH hn0 (by omega) f B
  · exact c_hours_no d hC hO hH hn f B
theorem zcU.last {I : Nat → Nat → Int32} {c : Nat} {un : List (Nat → Int32)} {y : Nat → Int32} (hy : un.getLast? = some y) : ∃ s, un.length = s + 1 ∧ un[s]? = some y ∧ un.dropLast.length = s ∧ ∀ k z, un.dropLast[k]? = some z → k < s ∧ un[k]? = some z := by
  cases un with
  | nil => cases hy
  | cons a l =>
    have hl := List.getLast?_eq_getElem? (l := a :: l)
    rw [hy] at hl
    refine ⟨l.length, rfl, hl.symm, by simp, fun k z hz => ?_⟩
    rw [List.getElem?_dropLast] at hz
    split at hz
    · next h => exact ⟨by simpa using h, hz⟩
    · cases hz
theorem k_take {n : Nat} {sl : Nat × Nat} {kd : Nat → Nat × Nat} {I : Nat → Nat → Int32} {L : Nat → Nat → Int64} {Rf : Nat → Nat → Option Nat} {T : zT} {H : Nat} (d : Nat) (hC : zC n kd I L Rf T) (hO : zOk H T) {y : Nat → Int32} (hy : T.un.getLast? = some y) : zq mX2_takeLatest (d + 1) [.ref 33, .ref 21] (n, sl, kd, I, L, Rf) (fun r τ => r = some (.int 1) ∧ ∃ I1, τ = (n, sl, kd, I1, L, Rf) ∧ zcU I1 T.c T.un.dropLast ∧ zcS I1 21 T.c y ∧ ∀ q, q < 21 ∨ 24 < q ∧ q < 33 ∨ 82 < q → I1 q = I q) := by
  obtain ⟨o, ho, h1, h2, h3⟩ := hC.un
  obtain ⟨s, e1, e2, e3, e4⟩ := zcU.last (I := I) (c := T.c) hy
  have hu := hO.unl
  have hm : ∀ q, q % 12 < 12 := fun q => Nat.mod_lt _ (by decide)
  have hj := hm (o + s)
  have hs := h3 s y e2
  refine (y_X2_takeLatest_ok (I := I) (L := L) d hC.F.pst rfl h1 ho (s := s) (by rw [← e1]; exact h2) (by omega) (hC.F.shp (i := 21) (by decide)) (by decide) hs.cr hO.c (by decide)).to ?_
  rintro _ _ ⟨rfl, rfl⟩
  have hs2 : zcS (z_set I 33 2 (nI s)) (35 + 4 * ((o + s) % 12)) T.c y := hs.s33 (by omega)
  refine ⟨rfl, _, rfl, ⟨o, ho, ?_, ?_, fun k z hz => ?_⟩, hs2.cp, fun q hq => ?_⟩
  · rw [z_cp_ne (by omega) (by omega) (by omega) (by omega), z_set_nk (by decide)]; exact h1
  · rw [z_cp_ne (by omega) (by omega) (by omega) (by omega), z_set_at, e3]
  · have hk := hm (o + k)
    exact ((h3 k z (e4 k z hz).2).s33 (by omega)).cpn (by omega)
  · rw [z_cp_ne (by omega) (by omega) (by omega) (by omega), z_set_ne (by omega)]
theorem c_undo_ok {n : Nat} {sl : Nat × Nat} {kd : Nat → Nat × Nat} {I : Nat → Nat → Int32} {L : Nat → Nat → Int64} {Rf : Nat → Nat → Option Nat} (d : Nat) {T : zT} {H : Nat} (hC : zC n kd I L Rf T) (hO : zOk H T) (hH : H ≤ 1000000000) {y : Nat → Int32} (hy : T.un.getLast? = some y) : zq mX10_undo (d + 60) [.ref 0] (n, sl, kd, I, L, Rf) (zpC n sl kd I L Rf (some (.int (s_undo T).1)) (s_undo T).2) := by
  have hF := hC.F; have hc7 := hO.c
  have hK0 : zK n kd I L Rf I I L Rf T none none false := zK.start hC
  intro f B
  refine ez_meth pn_X.2.2.2.2.2.2.2.2.2.2.1 (Nat.le_of_ble_eq_true rfl) ?_
  show ez_P _ _ _ _ _ _ 0 [(0, .ref 0)] [] (n, sl, kd, I, L, Rf) _
  refine ez_aload_n (i := 0) dX10_undo_0 rfl rfl ?_
  refine ez_getR dX10_undo_1 flX10_46 (hF.lt (by decide)) (hF.kc (by decide) rfl) (hF.pt 30 rfl) ?_
  refine ez_aload_n (i := 0) dX10_undo_4 rfl rfl ?_
  refine ez_getR dX10_undo_5 flX10_33 (hF.lt (by decide)) (hF.kc (by decide) rfl) (hF.pt 21 rfl) ?_
  refine ez_callV (M1 := mX2_takeLatest) (rest := []) dX10_undo_8 mlX10_252 mvX2_takeLatest rfl (hF.lt (by decide)) (hF.kc (by decide) rfl) (Nat.le_of_ble_eq_true rfl) rfl (k_take (T := T) (I := I) (L := L) (d + 58) hC hO hy) (fun _ _ h => Or.inl (by obtain ⟨_, I1, h, _⟩ := h; rw [h])) ?_
  rintro _ _ ⟨rfl, I1, rfl, hu1, hs1, hn1⟩
  show ez_P _ _ _ _ _ _ 11 [(0, .ref 0)] (.int 1 :: []) (n, sl, kd, I1, L, Rf) _
  obtain ⟨I2, hI2⟩ : ∃ z : Nat → Nat → Int32, z = fun q => if q < 33 ∨ 82 < q then I q else I1 q := ⟨_, rfl⟩
  have hKu : zK n kd I L Rf I I2 L Rf (T.w_un T.un.dropLast) none none false := hK0.unn (I1 := I2) (by have := hu1.cg (I1 := I2) (fun c h1 h2 => by rw [hI2]; exact if_neg (by omega)); exact this) (fun c hc => by rw [hI2]; exact if_pos hc)
  have hK1 : zK n kd I L Rf I I1 L Rf ((T.w_un T.un.dropLast).w_x y) none none false := hKu.sh hs1 (fun c hc => by rw [hI2]; show I1 c = if c < 33 ∨ 82 < c then I c else I1 c; by_cases e : c < 33 ∨ 82 < c; rw [if_pos e]; exact hn1 c (by omega); rw [if_neg e])
  refine ez_if_eq (tgt := 24) dX10_undo_11 (by decide) (fun c1 => absurd c1 (by decide)) (fun c1 => ?_)
  refine ez_aload_n (i := 0) dX10_undo_14 rfl rfl ?_
  refine ez_getR dX10_undo_15 flX10_46 (hF.lt (by decide)) (hF.kc (by decide) rfl) (hF.pt 30 rfl) ?_
  refine ez_getI dX10_undo_18 flX10_256 (hF.lt (by decide)) (hF.kc (by decide) rfl) ?_
  refine ez_topE (y := nI ((T.w_un T.un.dropLast).w_x y).un.length) hK1.C.unl ?_
  refine ez_goto (tgt := 25) dX10_undo_21 (by decide) ?_
  refine ez_iret dX10_undo_25 rfl rfl ?_
  rw [show s_undo T = (nI T.un.dropLast.length, (T.w_un T.un.dropLast).w_x y) from by unfold s_undo; rw [hy, List.length_dropLast]]
  exact hK1.end
theorem c_undo_no {n : Nat} {sl : Nat × Nat} {kd : Nat → Nat × Nat} {I : Nat → Nat → Int32} {L : Nat → Nat → Int64} {Rf : Nat → Nat → Option Nat} (d : Nat) {T : zT} {H : Nat} (hC : zC n kd I L Rf T) (hO : zOk H T) (hH : H ≤ 1000000000) (hy : T.un.getLast? = none) : zq mX10_undo (d + 60) [.ref 0] (n, sl, kd, I, L, Rf) (zpC n sl kd I L Rf (some (.int (s_undo T).1)) (s_undo T).2) := by
  have hF := hC.F; have hc7 := hO.c
  have hK0 : zK n kd I L Rf I I L Rf T none none false := zK.start hC
  have hsp : s_undo T = (-1, T) := (by unfold s_undo; rw [hy])
  rw [hsp]
  intro f B
  refine ez_meth pn_X.2.2.2.2.2.2.2.2.2.2.1 (Nat.le_of_ble_eq_true rfl) ?_
  show ez_P _ _ _ _ _ _ 0 [(0, .ref 0)] [] (n, sl, kd, I, L, Rf) _
  refine ez_aload_n (i := 0) dX10_undo_0 rfl rfl ?_
  refine ez_getR dX10_undo_1 flX10_46 (hF.lt (by decide)) (hF.kc (by decide) rfl) (hF.pt 30 rfl) ?_
  refine ez_aload_n (i := 0) dX10_undo_4 rfl rfl ?_
  refine ez_getR dX10_undo_5 flX10_33 (hF.lt (by decide)) (hF.kc (by decide) rfl) (hF.pt 21 rfl) ?_
  refine ez_callV (M1 := mX2_takeLatest) (rest := []) dX10_undo_8 mlX10_252 mvX2_takeLatest rfl (hF.lt (by decide)) (hF.kc (by decide) rfl) (Nat.le_of_ble_eq_true rfl) rfl (y_X2_takeLatest_no (I := I) (L := L) (d + 59) hF.pst rfl (j := 21) (by rw [hC.unl, List.getLast?_eq_none_iff.mp hy]; rfl)) eb_rok ?_
  rintro _ _ ⟨rfl, rfl⟩
  show ez_P _ _ _ _ _ _ 11 [(0, .ref 0)] (.int 0 :: []) _ _
  refine ez_if_eq (tgt := 24) dX10_undo_11 (by decide) (fun c1 => ?_) (fun c1 => absurd (by decide) c1)
  refine ez_iconst (v := (-1)) dX10_undo_24 (by decide) ?_
  refine ez_iret dX10_undo_25 rfl rfl ?_
  exact hK0.end
theorem c_undo {n : Nat} {sl : Nat × Nat} {kd : Nat → Nat × Nat} {I : Nat → Nat → Int32} {L : Nat → Nat → Int64} {Rf : Nat → Nat → Option Nat} (d : Nat) {T : zT} {H : Nat} (hC : zC n kd I L Rf T) (hO : zOk H T) (hH : H ≤ 1000000000) : zq mX10_undo (d + 60) [.ref 0] (n, sl, kd, I, L, Rf) (zpC n sl kd I L Rf (some (.int (s_undo T).1)) (s_undo T).2) := by
  cases hy : T.un.getLast? with
  | none => exact c_undo_no d hC hO hH hy
  | some y => exact c_undo_ok d hC hO hH hy
