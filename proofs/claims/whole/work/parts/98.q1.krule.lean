/-! the class: rule, law -/
/-- the two rules change places -/
def zrsw (Rf : Nat → Nat → Option Nat) (b a : Nat) : Nat → Nat → Option Nat := fun i k => if i = 5 ∧ k = 3 then some b else if i = 5 ∧ k = 4 then some a else Rf i k
theorem zsw_va {Rf : Nat → Nat → Option Nat} {b a : Nat} : va_up (va_up Rf 5 (va_up (Rf 5) 3 (some b))) 5 (va_up (va_up Rf 5 (va_up (Rf 5) 3 (some b)) 5) 4 (some a)) = zrsw Rf b a := by
  funext i k
  by_cases e1 : i = 5
  · subst e1
    by_cases e3 : k = 3
    · subst e3; simp [va_up, zrsw]
    · by_cases e4 : k = 4
      · subst e4; simp [va_up, zrsw]
      · simp [va_up, zrsw, e3, e4]
  · simp [va_up, zrsw, e1]
theorem zsw_ne {Rf : Nat → Nat → Option Nat} {b a c : Nat} (h : c ≠ 5) : zrsw Rf b a c = Rf c := by
  funext k; unfold zrsw; rw [if_neg (fun g => h g.1), if_neg (fun g => h g.1)]
theorem zsw_sw {Rf : Nat → Nat → Option Nat} {b a : Nat} (h3 : Rf 5 3 = some a) (h4 : Rf 5 4 = some b) : zrsw (zrsw Rf b a) a b = Rf := by
  funext i k
  unfold zrsw
  by_cases e3 : i = 5 ∧ k = 3
  · rw [if_pos e3, e3.1, e3.2, h3]
  · rw [if_neg e3]
    by_cases e4 : i = 5 ∧ k = 4
    · rw [if_pos e4, e4.1, e4.2, h4]
    · rw [if_neg e4, if_neg e3, if_neg e4]
theorem zpt_n5 : ∀ p ∈ zpt, ¬ (p.1 = 5 ∧ p.2.1 = 3) ∧ ¬ (p.1 = 5 ∧ p.2.1 = 4) := by decide +kernel
theorem zF.sw {n : Nat} {kd : Nat → Nat × Nat} {Rf : Nat → Nat → Option Nat} {b a : Nat} (h : zF n kd Rf) : zF n kd (zrsw Rf b a) := by
  refine ⟨h.1, h.2.1, h.2.2.1, fun k p e => ?_⟩
  have hn := zpt_n5 p (List.mem_of_getElem? e)
  unfold zrsw; rw [if_neg hn.1, if_neg hn.2]; exact h.2.2.2 k p e
theorem zS.u {Rf : Nat → Nat → Option Nat} {a b : Nat} (h : zS Rf a) (g : zS Rf b) : a = b := by
  have := h.1.symm.trans g.1
  simpa using this
theorem zC.spr {n : Nat} {kd : Nat → Nat × Nat} {I I1 : Nat → Nat → Int32} {L : Nat → Nat → Int64} {Rf : Nat → Nat → Option Nat} {T : zT} (h : zC n kd I L Rf T) {a : Nat} (hS : zS Rf a) (hI : ∀ c, ¬ z_rc (21 - a) c → I1 c = I c) : zC n kd I1 L Rf T := by
  obtain ⟨a2, hS2, hu⟩ := h.S
  have e := hS2.u hS
  subst e
  have ha := hS.2.2
  have hI2 : ∀ c, c < 8 ∨ 17 < c → I1 c = I c := fun c hc => hI c (fun g => by unfold z_rc at g; omega)
  exact ⟨h.F, ⟨a2, hS, hu.cg (hI a2 (fun g => by unfold z_rc at g; omega)) (hI (a2 + 1) (fun g => by unfold z_rc at g; omega))⟩, h.tx.cg (hI2 1 (by omega)) (hI2 2 (by omega)), h.rw.cg (hI2 3 (by omega)) rfl, by rw [hI2 6 (by omega)]; exact h.pr, by rw [hI2 5 (by omega)]; exact h.wm, by rw [hI2 7 (by omega)]; exact h.wd, h.sh.cg (hI2 21 (by omega)) (hI2 22 (by omega)) (hI2 23 (by omega)) (hI2 24 (by omega)), h.un.cg (fun c h1 h2 => hI2 c (by omega)), h.kp.cg (fun c h1 h2 => hI2 c (by omega)), h.sn.cg (fun c h1 h2 => hI2 c (by omega)), h.hd.cg (fun c h1 h2 => hI2 c (by omega)), h.ch, by rw [hI2 1000050 (by omega)]; exact h.hm⟩
theorem zC.swp {n : Nat} {kd : Nat → Nat × Nat} {I : Nat → Nat → Int32} {L : Nat → Nat → Int64} {Rf : Nat → Nat → Option Nat} {T : zT} (h : zC n kd I L Rf T) {a b : Nat} (hb : b = 8 ∨ b = 13) (hab : a = 21 - b) {rv : (Nat → Int32) → Int32} (hu : zRu I b rv) : zC n kd I L (zrsw Rf b a) (T.w_rv rv) :=
  ⟨h.F.sw, ⟨b, ⟨by simp [zrsw], by simp [zrsw, hab], hb⟩, hu⟩, h.tx, h.rw, h.pr, h.wm, h.wd, h.sh, h.un, h.kp, h.sn, h.hd, by rw [zsw_ne (by decide)]; exact h.ch, h.hm⟩
section ZKR
variable {n : Nat} {sl : Nat × Nat} {kd : Nat → Nat × Nat} {I I1 I0 g : Nat → Nat → Int32} {L L0 : Nat → Nat → Int64} {Rf R0 : Nat → Nat → Option Nat} {T : zT} {G Bf : Option (Nat → Int32)} {w : Bool}
theorem zK.spr (h : zK n kd I0 L0 R0 g I L Rf T G Bf w) {a : Nat} (hS : zS Rf a) (hI : ∀ c, ¬ z_rc (21 - a) c → I1 c = I c) : zK n kd I0 L0 R0 g I1 L Rf T G Bf w := by
  have ha := hS.2.2
  have hI2 : ∀ c, c < 8 ∨ 17 < c → I1 c = I c := fun c hc => hI c (fun g => by unfold z_rc at g; omega)
  exact ⟨h.C.spr hS hI, fun x e => (h.gs x e).cg (hI2 _ (by omega)) (hI2 _ (by omega)) (hI2 _ (by omega)) (hI2 _ (by omega)), fun x e => (h.bf x e).cg (hI2 _ (by omega)) (hI2 _ (by omega)) (hI2 _ (by omega)) (hI2 _ (by omega)), fun e b hb => by rw [hI2 108 (by omega)]; exact h.lo e b hb, fun c hc => by rw [hI2 c (by omega)]; exact h.f c hc, fun c hc => by rw [hI2 c (by unfold zgk at hc; omega)]; exact h.g c hc⟩
theorem zK.swp (h : zK n kd I0 L0 R0 g I L Rf T G Bf w) {a b : Nat} (hb : b = 8 ∨ b = 13) (hab : a = 21 - b) {rv : (Nat → Int32) → Int32} (hu : zRu I b rv) : zK n kd I0 L0 R0 g I L (zrsw Rf b a) (T.w_rv rv) G Bf false :=
  ⟨h.C.swp hb hab hu, h.gs, h.bf, fun e => (nomatch e), fun c hc => by rw [zsw_ne (by omega)]; exact h.f c hc, h.g⟩
end ZKR
theorem k_read {n : Nat} {sl : Nat × Nat} {kd : Nat → Nat × Nat} {I : Nat → Nat → Int32} {L : Nat → Nat → Int64} {Rf : Nat → Nat → Option Nat} (d : Nat) {T : zT} {H : Nat} (hC : zC n kd I L Rf T) (hO : zOk H T) {b : Nat} (hb : b = 8 ∨ b = 13) : zq mX5_read (d + 6) [.ref b, .ref 1] (n, sl, kd, I, L, Rf) (zpI n sl kd L Rf (zrdM (ztby T) T.tx.length) (fun I1 => (zrdM (ztby T) T.tx.length = -1 → zRu I1 b (zrvM (ztby T) T.tx.length)) ∧ ∀ c, ¬ z_rc b c → I1 c = I c)) := by
  intro f B I7 R7 h7
  have e1 : I7 1 = I 1 := h7.cell (c := 1) (by unfold znc; omega)
  have e2 : I7 2 = I 2 := h7.cell (c := 2) (by unfold znc; omega)
  have hF7 := hC.F.tr h7.2.1
  have ht : ∀ q, q < T.tx.length → I7 2 q = T.tx.getD q 0 := fun q hq => by rw [e2]; exact hC.tx.2 q hq
  have hb2 : ∀ q, q < T.tx.length → ∃ x, x < 256 ∧ I7 2 q = nI x := fun q hq => by rw [ht q hq]; exact hO.tx q hq
  have hby : ∀ q, q < T.tx.length → ztby T q = (I7 2 q).toInt8.toInt32 := fun q hq => by rw [ht q hq]; rfl
  have hpar := zpar hb2 hby
  refine (q_X5_read (I := I7) d (hF7.rul hb) hF7.txt (by omega) (m := T.tx.length) (by rw [e1]; exact hC.tx.1) hO.txl hb2).to ?_
  rintro _ _ ⟨rfl, I1, rfl, hR, ho⟩
  have hrd : z_rda (I7 (1 + 1)) T.tx.length = zrdM (ztby T) T.tx.length := hpar.1
  obtain ⟨J, hJ⟩ : ∃ J : Nat → Nat → Int32, ∀ c, (z_rc b c → J c = I1 c) ∧ (¬ z_rc b c → J c = I c) := ⟨fun c => if c = b ∨ c = b + 1 ∨ c = b + 2 ∨ c = b + 4 then I1 c else I c, fun c => ⟨fun h => if_pos h, fun h => if_neg h⟩⟩
  refine ⟨J, Rf, B, rfl, ⟨fun c k hs => ?_, h7.2.1, h7.2.2.cg ?_ ?_ ?_⟩, by rw [hrd], J, rfl, fun h => ?_, fun c hc => (hJ c).2 hc⟩
  · show I1 c k = J c k
    by_cases hc : z_rc b c
    · rw [(hJ c).1 hc]
    · rw [(hJ c).2 hc, ho c hc]; exact h7.1 c k hs
  · show I1 5 8 = I7 5 8
    rw [ho 5 (fun g => by unfold z_rc at g; omega)]
  · exact ho 19 (fun g => by unfold z_rc at g; omega)
  · exact ho 20 (fun g => by unfold z_rc at g; omega)
  · exact (zRu_rd hb2 hby (hrd.trans h) (hR (hrd.trans h))).cg ((hJ b).1 (by unfold z_rc; omega)) ((hJ (b + 1)).1 (by unfold z_rc; omega))
theorem k_chg {n : Nat} {sl : Nat × Nat} {kd : Nat → Nat × Nat} {I : Nat → Nat → Int32} {L : Nat → Nat → Int64} {Rf : Nat → Nat → Option Nat} (d : Nat) (hF : zF n kd Rf) {a b : Nat} (h3 : Rf 5 3 = some a) (h4 : Rf 5 4 = some b) (ha : a < 100) (hb : b < 100) : zq mX6_changeRules d [.ref 5] (n, sl, kd, I, L, Rf) (eb_v (n, sl, kd, I, L, zrsw Rf b a)) := by
  intro f B
  refine ez_meth pn_X.2.2.2.2.2.2.1 (Nat.le_of_ble_eq_true rfl) ?_
  show ez_P _ _ _ _ _ _ 0 [(0, .ref 5)] [] (n, sl, kd, I, L, Rf) _
  refine ez_aload_n (i := 0) dX6_changeRules_0 rfl rfl ?_
  refine ez_getR dX6_changeRules_1 flX6_25 (hF.lt (by decide)) (hF.kc (by decide) rfl) h3 ?_
  refine ez_astore_n (l' := [(1, .ref a), (0, .ref 5)]) dX6_changeRules_4 rfl (by decide) rfl ?_
  refine ez_aload_n (i := 0) dX6_changeRules_5 rfl rfl ?_
  refine ez_aload_n (i := 0) dX6_changeRules_6 rfl rfl ?_
  refine ez_getR dX6_changeRules_7 flX6_29 (hF.lt (by decide)) (hF.kc (by decide) rfl) h4 ?_
  refine ez_putR dX6_changeRules_10 plX6_25 (fun h => by cases h) (hF.lt (by decide)) (hF.kc (by decide) rfl) (Or.inl (by have := hF.1; omega)) ?_
  refine ez_nmR (fun R1 hR1 => ?_)
  refine ez_aload_n (i := 0) dX6_changeRules_13 rfl rfl ?_
  refine ez_aload_n (i := 1) dX6_changeRules_14 rfl rfl ?_
  refine ez_putR dX6_changeRules_15 plX6_29 (fun h => by cases h) (hF.lt (by decide)) (hF.kc (by decide) rfl) (Or.inl (by have := hF.1; omega)) ?_
  refine ez_nmR (fun R2 hR2 => ?_)
  refine ez_vret dX6_changeRules_18 rfl ?_
  exact ⟨by rw [hR2, hR1, zsw_va], rfl⟩
theorem c_rule {n : Nat} {sl : Nat × Nat} {kd : Nat → Nat × Nat} {I : Nat → Nat → Int32} {L : Nat → Nat → Int64} {Rf : Nat → Nat → Option Nat} (d : Nat) {T : zT} {H : Nat} (hC : zC n kd I L Rf T) (hO : zOk H T) (hH : H ≤ 1000000000) : zq mX10_rule (d + 60) [.ref 0] (n, sl, kd, I, L, Rf) (zpC n sl kd I L Rf (some (.int (s_rule T).1)) (s_rule T).2) := by
  have hF := hC.F; have hc7 := hO.c
  have hK0 : zK n kd I L Rf I I L Rf T none none false := zK.start hC
  intro f B
  refine ez_meth pn_X.2.2.2.2.2.2.2.2.2.2.1 (Nat.le_of_ble_eq_true rfl) ?_
  obtain ⟨a, hS, hu⟩ := hC.S
  have ha := hS.2.2
  obtain ⟨b, hb⟩ : ∃ b, b = 21 - a := ⟨_, rfl⟩
  have hb8 : b = 8 ∨ b = 13 := by omega
  have hS2 : Rf 5 4 = some b := by rw [hb]; exact hS.2.1
  show ez_P _ _ _ _ _ _ 0 [(0, .ref 0)] [] (n, sl, kd, I, L, Rf) _
  refine ez_aload_n (i := 0) dX10_rule_0 rfl rfl ?_
  refine ez_getR dX10_rule_1 flX10_26 (hF.lt (by decide)) (hF.kc (by decide) rfl) (hF.pt 4 rfl) ?_
  refine ez_getR dX10_rule_4 flX10_143 (hF.lt (by decide)) (hF.kc (by decide) rfl) hS2 ?_
  refine ez_aload_n (i := 0) dX10_rule_7 rfl rfl ?_
  refine ez_getR dX10_rule_8 flX10_10 (hF.lt (by decide)) (hF.kc (by decide) rfl) (hF.pt 1 rfl) ?_
  refine ez_callV (M1 := mX5_read) (rest := []) dX10_rule_11 mlX10_147 mvX5_read rfl (by have := hF.1; omega) (hF.rul hb8).1 (Nat.le_of_ble_eq_true rfl) rfl (k_read (I := I) (L := L) (d + 53) hC hO (b := b) hb8) zpI_ok ?_
  rintro _ _ ⟨rfl, I1, rfl, hru, hn1⟩
  show ez_P _ _ _ _ _ _ 14 [(0, .ref 0)] (.int (zrdM (ztby T) T.tx.length) :: []) (n, sl, kd, I1, L, Rf) _
  have hK1 : zK n kd I L Rf I I1 L Rf T none none false := by exact hK0.spr hS (by rw [← hb]; exact hn1)
  refine ez_istore_n (l' := [(1, .int (zrdM (ztby T) T.tx.length)), (0, .ref 0)]) dX10_rule_14 rfl (by decide) rfl ?_
  refine ez_aload_n (i := 0) dX10_rule_15 rfl rfl ?_
  refine ez_getR dX10_rule_16 flX10_10 (hF.lt (by decide)) (hF.kc (by decide) rfl) (hF.pt 1 rfl) ?_
  refine ez_callV (M1 := mX9_empty) (rest := []) dX10_rule_19 mlX10_123 mvX9_empty rfl (hF.lt (by decide)) (hF.kc (by decide) rfl) (Nat.le_of_ble_eq_true rfl) rfl (y_X9_empty (I := I1) (L := L) (d + 59) hF.txt rfl) (eb_vok rfl) ?_
  rintro _ _ ⟨rfl, rfl⟩
  refine ez_nmI (fun I2 hI2 => ?_)
  show ez_P _ _ _ _ _ _ 22 [(1, .int (zrdM (ztby T) T.tx.length)), (0, .ref 0)] [] (n, sl, kd, I2, L, Rf) _
  have hK3 : zK n kd I L Rf I I2 L Rf (T.w_tx []) none none false := by rw [hI2]; exact hK1.txt (I1 := z_set I1 1 1 0) ⟨z_set_at, fun k hk => absurd hk (Nat.not_lt_zero k)⟩ (fun c hc => z_set_ne (by omega))
  refine ez_iload_n (i := 1) dX10_rule_22 rfl rfl ?_
  refine ez_iconst (v := (-1)) dX10_rule_23 (by decide) ?_
  refine ez_icmp_eq (tgt := 31) dX10_rule_24 (by decide) (fun c4 => ?_) (fun c4 => ?_)
  · skip
    refine ez_aload_n (i := 0) dX10_rule_31 rfl rfl ?_
    refine ez_getR dX10_rule_32 flX10_26 (hF.lt (by decide)) (hF.kc (by decide) rfl) (hF.pt 4 rfl) ?_
    refine ez_callV (M1 := mX6_changeRules) (rest := []) dX10_rule_35 mlX10_152 mvX6_changeRules rfl (hF.lt (by decide)) (hF.kc (by decide) rfl) (Nat.le_of_ble_eq_true rfl) rfl (k_chg (I := I2) (L := L) (d + 59) hF hS.1 hS2 (by omega) (by omega)) (eb_vok rfl) ?_
    rintro _ _ ⟨rfl, rfl⟩
    show ez_P _ _ _ _ _ _ 38 [(1, .int (zrdM (ztby T) T.tx.length)), (0, .ref 0)] [] (n, sl, kd, I2, L, (zrsw Rf b a)) _
    have hK5 : zK n kd I L Rf I I2 L (zrsw Rf b a) ((T.w_tx []).w_rv (zrvM (ztby T) T.tx.length)) none none false := by exact hK3.swp hb8 (by omega) ((hru c4).cg (by rw [hI2, z_set_ne (by omega)]) (by rw [hI2, z_set_ne (by omega)]))
    refine ez_iconst (v := 0) dX10_rule_38 (by decide) ?_
    refine ez_iret dX10_rule_39 rfl rfl ?_
    rw [show s_rule T = (0, (T.w_tx []).w_rv (zrvM (ztby T) T.tx.length)) from by unfold s_rule; rw [if_pos c4]]
    exact hK5.end
  · skip
    refine ez_iconst (v := (-1)) dX10_rule_27 (by decide) ?_
    refine ez_iload_n (i := 1) dX10_rule_28 rfl rfl ?_
    refine ez_isub dX10_rule_29 ?_
    refine ez_iret dX10_rule_30 rfl rfl ?_
    rw [show s_rule T = (-1 - zrdM (ztby T) T.tx.length, T.w_tx []) from by unfold s_rule; rw [if_neg c4]]
    exact hK3.end
theorem c_law {n : Nat} {sl : Nat × Nat} {kd : Nat → Nat × Nat} {I : Nat → Nat → Int32} {L : Nat → Nat → Int64} {Rf : Nat → Nat → Option Nat} (d : Nat) {T : zT} {H : Nat} (hC : zC n kd I L Rf T) (hO : zOk H T) (hH : H ≤ 1000000000) (f : Nat) (B : Nat → Int32) : ez_Q (f + 100) B f (fun _ => True) mX10_law (d + 60) [.ref 0] (n, sl, kd, I, L, Rf) (zpC n sl kd I L Rf (some (.int (s_law T).1)) (s_law T).2) := by
  have hF := hC.F; have hc7 := hO.c
  have hK0 : zK n kd I L Rf I I L Rf T none none false := zK.start hC
  refine ez_meth pn_X.2.2.2.2.2.2.2.2.2.2.1 (Nat.le_of_ble_eq_true rfl) ?_
  obtain ⟨a, hS, hu⟩ := hC.S
  have ha := hS.2.2
  obtain ⟨b, hb⟩ : ∃ b, b = 21 - a := ⟨_, rfl⟩
  have hb8 : b = 8 ∨ b = 13 := by omega
  have hS2 : Rf 5 4 = some b := by rw [hb]; exact hS.2.1
  show ez_P _ _ _ _ _ _ 0 [(0, .ref 0)] [] (n, sl, kd, I, L, Rf) _
  refine ez_aload_n (i := 0) dX10_law_0 rfl rfl ?_
  refine ez_getR dX10_law_1 flX10_26 (hF.lt (by decide)) (hF.kc (by decide) rfl) (hF.pt 4 rfl) ?_
  refine ez_getR dX10_law_4 flX10_143 (hF.lt (by decide)) (hF.kc (by decide) rfl) hS2 ?_
  refine ez_aload_n (i := 0) dX10_law_7 rfl rfl ?_
  refine ez_getR dX10_law_8 flX10_10 (hF.lt (by decide)) (hF.kc (by decide) rfl) (hF.pt 1 rfl) ?_
  refine ez_callV (M1 := mX5_read) (rest := []) dX10_law_11 mlX10_147 mvX5_read rfl (by have := hF.1; omega) (hF.rul hb8).1 (Nat.le_of_ble_eq_true rfl) rfl (k_read (I := I) (L := L) (d + 53) hC hO (b := b) hb8) zpI_ok ?_
  rintro _ _ ⟨rfl, I1, rfl, hru, hn1⟩
  show ez_P _ _ _ _ _ _ 14 [(0, .ref 0)] (.int (zrdM (ztby T) T.tx.length) :: []) (n, sl, kd, I1, L, Rf) _
  have hK1 : zK n kd I L Rf I I1 L Rf T none none false := by exact hK0.spr hS (by rw [← hb]; exact hn1)
  refine ez_istore_n (l' := [(1, .int (zrdM (ztby T) T.tx.length)), (0, .ref 0)]) dX10_law_14 rfl (by decide) rfl ?_
  refine ez_aload_n (i := 0) dX10_law_15 rfl rfl ?_
  refine ez_getR dX10_law_16 flX10_10 (hF.lt (by decide)) (hF.kc (by decide) rfl) (hF.pt 1 rfl) ?_
  refine ez_callV (M1 := mX9_empty) (rest := []) dX10_law_19 mlX10_123 mvX9_empty rfl (hF.lt (by decide)) (hF.kc (by decide) rfl) (Nat.le_of_ble_eq_true rfl) rfl (y_X9_empty (I := I1) (L := L) (d + 59) hF.txt rfl) (eb_vok rfl) ?_
  rintro _ _ ⟨rfl, rfl⟩
  refine ez_nmI (fun I2 hI2 => ?_)
  show ez_P _ _ _ _ _ _ 22 [(1, .int (zrdM (ztby T) T.tx.length)), (0, .ref 0)] [] (n, sl, kd, I2, L, Rf) _
  have hK3 : zK n kd I L Rf I I2 L Rf (T.w_tx []) none none false := by rw [hI2]; exact hK1.txt (I1 := z_set I1 1 1 0) ⟨z_set_at, fun k hk => absurd hk (Nat.not_lt_zero k)⟩ (fun c hc => z_set_ne (by omega))
  refine ez_iload_n (i := 1) dX10_law_22 rfl rfl ?_
  refine ez_iconst (v := (-1)) dX10_law_23 (by decide) ?_
  refine ez_icmp_eq (tgt := 33) dX10_law_24 (by decide) (fun c4 => ?_) (fun c4 => ?_)
  · skip
    have hO1 : zOk H (T.w_tx []) := hO.wt0
    have hO2 : zOk H ((T.w_tx []).w_rv (zrvM (ztby T) T.tx.length)) := by have := o_rule hO; rw [show s_rule T = (0, (T.w_tx []).w_rv (zrvM (ztby T) T.tx.length)) from by unfold s_rule; rw [if_pos c4]] at this; exact this
    have hcb : ∀ c, (c = a ∨ c = a + 1) → I2 c = I c := fun c hc => by rw [hI2, z_set_ne (by omega), hn1 _ (fun g => by unfold z_rc at g; omega)]
    have hcd : ∀ c, (c = b ∨ c = b + 1) → I2 c = I1 c := fun c hc => by rw [hI2, z_set_ne (by omega)]
    refine ez_aload_n (i := 0) dX10_law_33 rfl rfl ?_
    refine ez_callVm (M1 := mX10_lookAhead) (rest := []) dX10_law_34 mlX10_282 mvX10_lookAhead rfl (hF.lt (by decide)) (hF.kc (by decide) rfl) (Nat.le_of_ble_eq_true rfl) rfl (k_look (T := (T.w_tx [])) (I := I2) (L := L) (d + 39) hK3.C hO1 (f + 99) _) (eb_vok rfl) ?_
    rintro _ _ _ rfl ⟨rfl, rfl⟩
    refine ez_nmI (fun I5 hI5 => ?_)
    show ez_P _ _ _ _ _ _ 37 [(1, .int (zrdM (ztby T) T.tx.length)), (0, .ref 0)] [] (n, sl, kd, I5, L, Rf) _
    have hK6 : zK n kd I L Rf I I5 L Rf (T.w_tx []) (some T.x) none false := by rw [hI5]; exact hK3.cpg
    replace hcb : ∀ c, (c = a ∨ c = a + 1) → I5 c = I c := fun c hc => by rw [hI5, z_cp_ne (by omega) (by omega) (by omega) (by omega)]; exact hcb c hc
    replace hcd : ∀ c, (c = b ∨ c = b + 1) → I5 c = I1 c := fun c hc => by rw [hI5, z_cp_ne (by omega) (by omega) (by omega) (by omega)]; exact hcd c hc
    refine ez_aload_n (i := 0) dX10_law_37 rfl rfl ?_
    refine ez_getR dX10_law_38 flX10_26 (hF.lt (by decide)) (hF.kc (by decide) rfl) (hF.pt 4 rfl) ?_
    refine ez_aload_n (i := 0) dX10_law_41 rfl rfl ?_
    refine ez_getR dX10_law_42 flX10_37 (hF.lt (by decide)) (hF.kc (by decide) rfl) (hF.pt 25 rfl) ?_
    refine ez_bipush (v := 20) dX10_law_45 (by decide) ?_
    refine ez_callVm (M1 := mX6_letHoursGo) (rest := []) dX10_law_47 mlX10_195 mvX6_letHoursGo rfl (hF.lt (by decide)) (hF.kc (by decide) rfl) (Nat.le_of_ble_eq_true rfl) rfl (k_let (T := (T.w_tx [])) (I := I5) (L := L) (d + 54) hK6.C hO1 (j := 25) (by decide) (hK6.gs _ rfl) hO.x (by omega) (N := 20) (by omega) (y := T.x) (fun _ _ => rfl) (f + 99)) k_hp_ok ?_
    rintro _ _ _ rfl ⟨rfl, I7, rfl, hs8, hn9⟩
    show ez_P _ _ _ _ _ _ 50 [(1, .int (zrdM (ztby T) T.tx.length)), (0, .ref 0)] (.int (zhc (T.w_tx []) T.x 20) :: []) (n, sl, kd, I7, L, Rf) _
    have hK10 : zK n kd I L Rf I I7 L Rf (T.w_tx []) (some (zhk (T.w_tx []) T.x 20)) none false := by exact hK6.gu hs8 (fun c hc => hn9 c (by omega))
    replace hcb : ∀ c, (c = a ∨ c = a + 1) → I7 c = I c := fun c hc => by rw [hn9 c (by omega)]; exact hcb c hc
    replace hcd : ∀ c, (c = b ∨ c = b + 1) → I7 c = I1 c := fun c hc => by rw [hn9 c (by omega)]; exact hcd c hc
    refine ez_pop dX10_law_50 rfl ?_
    refine ez_aload_n (i := 0) dX10_law_51 rfl rfl ?_
    refine ez_getR dX10_law_52 flX10_37 (hF.lt (by decide)) (hF.kc (by decide) rfl) (hF.pt 25 rfl) ?_
    refine ez_getI dX10_law_55 flX10_201 (hF.lt (by decide)) (hF.kc (by decide) rfl) ?_
    refine ez_topE (y := (zhk (T.w_tx []) T.x 20) 23) (hK10.gs _ rfl).lg ?_
    refine ez_aload_n (i := 0) dX10_law_58 rfl rfl ?_
    refine ez_getR dX10_law_59 flX10_33 (hF.lt (by decide)) (hF.kc (by decide) rfl) (hF.pt 21 rfl) ?_
    refine ez_getI dX10_law_62 flX10_201 (hF.lt (by decide)) (hF.kc (by decide) rfl) ?_
    refine ez_topE (y := T.x 23) hK10.C.sh.lg ?_
    refine ez_isub dX10_law_65 ?_
    refine ez_istore_n (l' := [(2, .int (((zhk (T.w_tx []) T.x 20) 23) - (T.x 23))), (1, .int (zrdM (ztby T) T.tx.length)), (0, .ref 0)]) dX10_law_66 rfl (by decide) rfl ?_
    refine ez_aload_n (i := 0) dX10_law_67 rfl rfl ?_
    refine ez_getR dX10_law_68 flX10_37 (hF.lt (by decide)) (hF.kc (by decide) rfl) (hF.pt 25 rfl) ?_
    refine ez_getI dX10_law_71 flX10_208 (hF.lt (by decide)) (hF.kc (by decide) rfl) ?_
    refine ez_topE (y := (zhk (T.w_tx []) T.x 20) 22) (hK10.gs _ rfl).l ?_
    refine ez_istore_n (l' := [(3, .int ((zhk (T.w_tx []) T.x 20) 22)), (2, .int (((zhk (T.w_tx []) T.x 20) 23) - (T.x 23))), (1, .int (zrdM (ztby T) T.tx.length)), (0, .ref 0)]) dX10_law_74 rfl (by decide) rfl ?_
    refine ez_aload_n (i := 0) dX10_law_75 rfl rfl ?_
    refine ez_getR dX10_law_76 flX10_26 (hF.lt (by decide)) (hF.kc (by decide) rfl) (hF.pt 4 rfl) ?_
    refine ez_callV (M1 := mX6_changeRules) (rest := []) dX10_law_79 mlX10_152 mvX6_changeRules rfl (hF.lt (by decide)) (hF.kc (by decide) rfl) (Nat.le_of_ble_eq_true rfl) rfl (k_chg (I := I7) (L := L) (d + 59) hF hS.1 hS2 (by omega) (by omega)) (eb_vok rfl) ?_
    rintro _ _ ⟨rfl, rfl⟩
    show ez_P _ _ _ _ _ _ 82 [(3, .int ((zhk (T.w_tx []) T.x 20) 22)), (2, .int (((zhk (T.w_tx []) T.x 20) 23) - (T.x 23))), (1, .int (zrdM (ztby T) T.tx.length)), (0, .ref 0)] [] (n, sl, kd, I7, L, (zrsw Rf b a)) _
    have hK11 : zK n kd I L Rf I I7 L (zrsw Rf b a) ((T.w_tx []).w_rv (zrvM (ztby T) T.tx.length)) (some (zhk (T.w_tx []) T.x 20)) none false := by exact hK10.swp hb8 (by omega) ((hru c4).cg (hcd b (by omega)) (hcd (b + 1) (by omega)))
    have hF0 := hF
    have hF : zF n kd (zrsw Rf b a) := hF0.sw
    refine ez_aload_n (i := 0) dX10_law_82 rfl rfl ?_
    refine ez_callVm (M1 := mX10_lookAhead) (rest := []) dX10_law_83 mlX10_282 mvX10_lookAhead rfl (hF.lt (by decide)) (hF.kc (by decide) rfl) (Nat.le_of_ble_eq_true rfl) rfl (k_look (T := ((T.w_tx []).w_rv (zrvM (ztby T) T.tx.length))) (I := I7) (L := L) (d + 39) hK11.C hO2 (f + 98) _) (eb_vok rfl) ?_
    rintro _ _ _ rfl ⟨rfl, rfl⟩
    refine ez_nmI (fun I12 hI12 => ?_)
    show ez_P _ _ _ _ _ _ 86 [(3, .int ((zhk (T.w_tx []) T.x 20) 22)), (2, .int (((zhk (T.w_tx []) T.x 20) 23) - (T.x 23))), (1, .int (zrdM (ztby T) T.tx.length)), (0, .ref 0)] [] (n, sl, kd, I12, L, (zrsw Rf b a)) _
    have hK13 : zK n kd I L Rf I I12 L (zrsw Rf b a) ((T.w_tx []).w_rv (zrvM (ztby T) T.tx.length)) (some T.x) none false := by rw [hI12]; exact hK11.cpg
    replace hcb : ∀ c, (c = a ∨ c = a + 1) → I12 c = I c := fun c hc => by rw [hI12, z_cp_ne (by omega) (by omega) (by omega) (by omega)]; exact hcb c hc
    replace hcd : ∀ c, (c = b ∨ c = b + 1) → I12 c = I1 c := fun c hc => by rw [hI12, z_cp_ne (by omega) (by omega) (by omega) (by omega)]; exact hcd c hc
    refine ez_aload_n (i := 0) dX10_law_86 rfl rfl ?_
    refine ez_getR dX10_law_87 flX10_26 (hF.lt (by decide)) (hF.kc (by decide) rfl) (hF.pt 4 rfl) ?_
    refine ez_aload_n (i := 0) dX10_law_90 rfl rfl ?_
    refine ez_getR dX10_law_91 flX10_37 (hF.lt (by decide)) (hF.kc (by decide) rfl) (hF.pt 25 rfl) ?_
    refine ez_bipush (v := 20) dX10_law_94 (by decide) ?_
    refine ez_callVm (M1 := mX6_letHoursGo) (rest := []) dX10_law_96 mlX10_195 mvX6_letHoursGo rfl (hF.lt (by decide)) (hF.kc (by decide) rfl) (Nat.le_of_ble_eq_true rfl) rfl (k_let (T := ((T.w_tx []).w_rv (zrvM (ztby T) T.tx.length))) (I := I12) (L := L) (d + 54) hK13.C hO2 (j := 25) (by decide) (hK13.gs _ rfl) hO.x (by omega) (N := 20) (by omega) (y := T.x) (fun _ _ => rfl) (f + 98)) k_hp_ok ?_
    rintro _ _ _ rfl ⟨rfl, I14, rfl, hs15, hn16⟩
    show ez_P _ _ _ _ _ _ 99 [(3, .int ((zhk (T.w_tx []) T.x 20) 22)), (2, .int (((zhk (T.w_tx []) T.x 20) 23) - (T.x 23))), (1, .int (zrdM (ztby T) T.tx.length)), (0, .ref 0)] (.int (zhc ((T.w_tx []).w_rv (zrvM (ztby T) T.tx.length)) T.x 20) :: []) (n, sl, kd, I14, L, (zrsw Rf b a)) _
    have hK17 : zK n kd I L Rf I I14 L (zrsw Rf b a) ((T.w_tx []).w_rv (zrvM (ztby T) T.tx.length)) (some (zhk ((T.w_tx []).w_rv (zrvM (ztby T) T.tx.length)) T.x 20)) none false := by exact hK13.gu hs15 (fun c hc => hn16 c (by omega))
    replace hcb : ∀ c, (c = a ∨ c = a + 1) → I14 c = I c := fun c hc => by rw [hn16 c (by omega)]; exact hcb c hc
    replace hcd : ∀ c, (c = b ∨ c = b + 1) → I14 c = I1 c := fun c hc => by rw [hn16 c (by omega)]; exact hcd c hc
    refine ez_pop dX10_law_99 rfl ?_
    refine ez_aload_n (i := 0) dX10_law_100 rfl rfl ?_
    refine ez_getR dX10_law_101 flX10_26 (hF.lt (by decide)) (hF.kc (by decide) rfl) (hF.pt 4 rfl) ?_
    refine ez_callV (M1 := mX6_changeRules) (rest := []) dX10_law_104 mlX10_152 mvX6_changeRules rfl (hF.lt (by decide)) (hF.kc (by decide) rfl) (Nat.le_of_ble_eq_true rfl) rfl (k_chg (I := I14) (L := L) (Rf := zrsw Rf b a) (d + 59) hF (a := b) (b := a) (by simp [zrsw]) (by simp [zrsw]) (by omega) (by omega)) (eb_vok rfl) ?_
    rintro _ _ ⟨rfl, rfl⟩
    rw [zsw_sw hS.1 hS2]
    show ez_P _ _ _ _ _ _ 107 [(3, .int ((zhk (T.w_tx []) T.x 20) 22)), (2, .int (((zhk (T.w_tx []) T.x 20) 23) - (T.x 23))), (1, .int (zrdM (ztby T) T.tx.length)), (0, .ref 0)] [] (n, sl, kd, I14, L, Rf) _
    have hKx := hK17.swp (a := b) (b := a) ha hb (hu.cg (hcb a (by omega)) (hcb (a + 1) (by omega)))
    rw [zsw_sw hS.1 hS2] at hKx
    have hK18 : zK n kd I L Rf I I14 L Rf (T.w_tx []) (some (zhk ((T.w_tx []).w_rv (zrvM (ztby T) T.tx.length)) T.x 20)) none false := by exact hKx
    have hF := hF0
    refine ez_aload_n (i := 0) dX10_law_107 rfl rfl ?_
    refine ez_getR dX10_law_108 flX10_37 (hF.lt (by decide)) (hF.kc (by decide) rfl) (hF.pt 25 rfl) ?_
    refine ez_getI dX10_law_111 flX10_201 (hF.lt (by decide)) (hF.kc (by decide) rfl) ?_
    refine ez_topE (y := (zhk ((T.w_tx []).w_rv (zrvM (ztby T) T.tx.length)) T.x 20) 23) (hK18.gs _ rfl).lg ?_
    refine ez_aload_n (i := 0) dX10_law_114 rfl rfl ?_
    refine ez_getR dX10_law_115 flX10_33 (hF.lt (by decide)) (hF.kc (by decide) rfl) (hF.pt 21 rfl) ?_
    refine ez_getI dX10_law_118 flX10_201 (hF.lt (by decide)) (hF.kc (by decide) rfl) ?_
    refine ez_topE (y := T.x 23) hK18.C.sh.lg ?_
    refine ez_isub dX10_law_121 ?_
    refine ez_istore (l' := [(4, .int (((zhk ((T.w_tx []).w_rv (zrvM (ztby T) T.tx.length)) T.x 20) 23) - (T.x 23))), (3, .int ((zhk (T.w_tx []) T.x 20) 22)), (2, .int (((zhk (T.w_tx []) T.x 20) 23) - (T.x 23))), (1, .int (zrdM (ztby T) T.tx.length)), (0, .ref 0)]) dX10_law_122 (by decide) rfl ?_
    refine ez_aload_n (i := 0) dX10_law_124 rfl rfl ?_
    refine ez_getR dX10_law_125 flX10_19 (hF.lt (by decide)) (hF.kc (by decide) rfl) (hF.pt 3 rfl) ?_
    refine ez_iload (i := 4) dX10_law_128 rfl ?_
    refine ez_iload_n (i := 2) dX10_law_130 rfl rfl ?_
    refine ez_bipush (v := 100) dX10_law_131 (by decide) ?_
    refine ez_aload_n (i := 0) dX10_law_133 rfl rfl ?_
    refine ez_getR dX10_law_134 flX10_37 (hF.lt (by decide)) (hF.kc (by decide) rfl) (hF.pt 25 rfl) ?_
    refine ez_getI dX10_law_137 flX10_208 (hF.lt (by decide)) (hF.kc (by decide) rfl) ?_
    refine ez_topE (y := (zhk ((T.w_tx []).w_rv (zrvM (ztby T) T.tx.length)) T.x 20) 22) (hK18.gs _ rfl).l ?_
    refine ez_iadd dX10_law_140 ?_
    refine ez_bipush (v := 100) dX10_law_141 (by decide) ?_
    refine ez_iload_n (i := 3) dX10_law_143 rfl rfl ?_
    refine ez_iadd dX10_law_144 ?_
    refine ez_callV (M1 := mX4_tell___) (rest := []) dX10_law_145 mlX10_404 mvX4_tell___ rfl (hF.lt (by decide)) (hF.kc (by decide) rfl) (Nat.le_of_ble_eq_true rfl) rfl (y_X4_tell___ (I := I14) (L := L) (d + 58) hF (((zhk ((T.w_tx []).w_rv (zrvM (ztby T) T.tx.length)) T.x 20) 23) - (T.x 23)) (((zhk (T.w_tx []) T.x 20) 23) - (T.x 23)) (100 + ((zhk ((T.w_tx []).w_rv (zrvM (ztby T) T.tx.length)) T.x 20) 22)) (100 + ((zhk (T.w_tx []) T.x 20) 22))) z_tok ?_
    rintro _ _ ⟨rfl, I19, L20, rfl, hr21, ho22⟩
    show ez_P _ _ _ _ _ _ 148 [(4, .int (((zhk ((T.w_tx []).w_rv (zrvM (ztby T) T.tx.length)) T.x 20) 23) - (T.x 23))), (3, .int ((zhk (T.w_tx []) T.x 20) 22)), (2, .int (((zhk (T.w_tx []) T.x 20) 23) - (T.x 23))), (1, .int (zrdM (ztby T) T.tx.length)), (0, .ref 0)] [] (n, sl, kd, I19, L20, Rf) _
    have hK23 : zK n kd I L Rf I I19 L20 Rf ((T.w_tx []).w_rw [(((zhk ((T.w_tx []).w_rv (zrvM (ztby T) T.tx.length)) T.x 20) 23) - (T.x 23)).toInt64, (((zhk (T.w_tx []) T.x 20) 23) - (T.x 23)).toInt64, (100 + ((zhk ((T.w_tx []).w_rv (zrvM (ztby T) T.tx.length)) T.x 20) 22)).toInt64, (100 + ((zhk (T.w_tx []) T.x 20) 22)).toInt64]) (some (zhk ((T.w_tx []).w_rv (zrvM (ztby T) T.tx.length)) T.x 20)) none false := by exact hK18.tell hr21 ho22
    refine ez_iload (i := 4) dX10_law_148 rfl ?_
    refine ez_iload_n (i := 2) dX10_law_150 rfl rfl ?_
    refine ez_isub dX10_law_151 ?_
    refine ez_iret dX10_law_152 rfl rfl ?_
    rw [show s_law T = ((zhk ((T.w_tx []).w_rv (zrvM (ztby T) T.tx.length)) T.x 20) 23 - T.x 23 - ((zhk (T.w_tx []) T.x 20) 23 - T.x 23), (T.w_tx []).w_rw [(((zhk ((T.w_tx []).w_rv (zrvM (ztby T) T.tx.length)) T.x 20) 23) - (T.x 23)).toInt64, (((zhk (T.w_tx []) T.x 20) 23) - (T.x 23)).toInt64, (100 + ((zhk ((T.w_tx []).w_rv (zrvM (ztby T) T.tx.length)) T.x 20) 22)).toInt64, (100 + ((zhk (T.w_tx []) T.x 20) 22)).toInt64]) from by unfold s_law; rw [if_pos c4]; unfold s_lawy; rw [← zhk_tx (T := T) (t := []), ← zhk_tx (T := zT2 T) (t := [])]; rfl]
    exact hK23.end
  · skip
    refine ez_ldcw (v := (-100000)) dX10_law_27 kcX10_403 ?_
    refine ez_iload_n (i := 1) dX10_law_30 rfl rfl ?_
    refine ez_isub dX10_law_31 ?_
    refine ez_iret dX10_law_32 rfl rfl ?_
    rw [show s_law T = (-100000 - zrdM (ztby T) T.tx.length, T.w_tx []) from by unfold s_law; rw [if_neg c4]]
    exact hK3.end
