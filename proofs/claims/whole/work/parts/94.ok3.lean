/-! what the calls leave is in its ranges: texts, rows -/
theorem a_line_l {T : zT} : ∀ k, (a_line T k).2.length = k
  | 0 => rfl
  | k + 1 => by
    show ((a_line T k).2 ++ [_]).length = k + 1
    rw [List.length_append, a_line_l k]; rfl
theorem o_line {H : Nat} {T : zT} (hO : zOk H T) : zOk H (s_line T).2 := hO.wrw (by rw [a_line_l]; have := hO.c; omega)
theorem zrj_l {v : Int32} {x : Nat} {a0 : Int32 × List Int32} (h : a0.2.length ≤ 2) : ∀ k, (zrj v x a0 k).2.length ≤ 2
  | 0 => by rw [zrj]; exact h
  | k + 1 => by
    by_cases e : zib (nI x) (nI k) v ∧ zib (nI k) (nI x) v
    · rw [zrj_y e.1 e.2]
      show (if (zrj v x a0 k).1 = 0 then [nI x, nI k] else (zrj v x a0 k).2).length ≤ 2
      split
      · exact Nat.le_refl _
      · exact zrj_l h k
    · rw [zrj_n e]; exact zrj_l h k
theorem zri_l {v : Int32} : ∀ k, (zri v k).2.length ≤ 2
  | 0 => by rw [zri]; exact Nat.zero_le _
  | k + 1 => by rw [zri]; exact zrj_l (zri_l k) 10
theorem o_rests {H : Nat} {T : zT} (hO : zOk H T) (v : Int32) : zOk H (s_rests T v).2 := by
  unfold s_rests
  split
  · exact hO.wrw (by rw [List.length_map]; have := zri_l (v := v) 10; omega)
  · exact hO
theorem zOk.wtx {H : Nat} {T : zT} (h : zOk H T) {tx : List Int32} (hl : tx.length ≤ 80) (hb : ∀ k, k < tx.length → ∃ v, v < 256 ∧ tx.getD k 0 = nI v) : zOk H (T.w_tx tx) := ⟨hl, hb, h.rwl, h.pr, h.wm, h.wd, h.c, h.x, h.unl, h.un, h.kp, h.snl, h.sn, h.hdl, h.hd, h.rv⟩
theorem o_end {H : Nat} {T : zT} (hO : zOk H T) (v : Int32) : zOk H (s_end T v).2 := by
  unfold s_end
  split
  · refine hO.wtx (by rw [List.length_take]; have := hO.txl; omega) (fun k hk => ?_)
    rw [List.length_take] at hk
    simp only [List.getD]; rw [List.getElem?_take_of_lt (by omega)]
    exact hO.tx k (by omega)
  · exact hO
theorem z_255 (v : Int32) : ∃ k, k < 256 ∧ v &&& 255 = nI k := by
  refine ⟨(v &&& 255).toBitVec.toNat, ?_, ?_⟩
  · rw [Int32.toBitVec_and, BitVec.toNat_and]
    exact Nat.lt_of_le_of_lt Nat.and_le_right (by decide)
  · refine Int32.toBitVec_inj.1 ?_
    show (v &&& 255).toBitVec = (Int32.ofNat (v &&& 255).toBitVec.toNat).toBitVec
    rw [Int32.toBitVec_ofNat', BitVec.ofNat_toNat, BitVec.setWidth_eq]
theorem o_sign {H : Nat} {T : zT} (hO : zOk H T) (v : Int32) : zOk H (s_sign T v).2 := by
  unfold s_sign
  split
  · next g =>
    refine hO.wtx (by rw [List.length_append]; exact g) (fun k hk => ?_)
    rw [List.length_append] at hk
    simp only [List.getD]
    by_cases e : k < T.tx.length
    · rw [List.getElem?_append_left e]; exact hO.tx k e
    · rw [List.getElem?_append_right (by omega)]
      obtain ⟨j, rfl⟩ : ∃ j, k = T.tx.length + j := ⟨k - T.tx.length, by omega⟩
      have hj : j < 4 := by simp at hk; omega
      rw [Nat.add_sub_cancel_left]
      rcases (show j = 0 ∨ j = 1 ∨ j = 2 ∨ j = 3 by omega) with e | e | e | e <;> subst e <;> exact z_255 _
  · exact hO
theorem o_heard {H : Nat} {T : zT} (h : zOk H T) (k v : Int32) : zOk H (s_heard T k v).2 := by
  unfold s_heard
  split
  · next g =>
    refine ⟨h.txl, h.tx, h.rwl, h.pr, h.wm, h.wd, h.c, h.x, h.unl, h.un, h.kp, h.snl, h.sn, ?_, fun q hq => ?_, h.rv⟩
    · show (T.hd ++ [(k, v)]).length ≤ 12
      rw [List.length_append]; simp only [List.length_cons, List.length_nil]; omega
    · rcases List.mem_append.mp (show q ∈ T.hd ++ [(k, v)] from hq) with e | e
      · exact h.hd q e
      · rw [List.mem_singleton.mp e]
        refine ⟨g.1.1, g.1.2.1, Int32.le_trans g.1.2.2 ?_⟩
        unfold z_hi
        split
        · decide
        · split <;> decide
  · exact h
theorem z_fst_ex {bad : Nat → Prop} : ∀ N, ∃ r, z_fst bad N r
  | 0 => ⟨-1, Or.inr ⟨fun p hp => absurd hp (Nat.not_lt_zero p), rfl⟩⟩
  | N + 1 => by
    obtain ⟨r, ⟨p, h1, h2, h3, h4⟩ | ⟨h1, h2⟩⟩ := z_fst_ex (bad := bad) N
    · exact ⟨r, Or.inl ⟨p, by omega, h2, h3, h4⟩⟩
    · by_cases e : bad N
      · exact ⟨nI N, Or.inl ⟨N, by omega, e, h1, rfl⟩⟩
      · exact ⟨-1, Or.inr ⟨fun p hp => by by_cases g : p = N; rw [g]; exact e; exact h1 p (by omega), rfl⟩⟩
theorem z_the_sp {P : Int32 → Prop} (h : ∃ r, P r) : P (z_the P) := Classical.epsilon_spec h
theorem z_thf_ex {t : Nat → Int32} {m : Nat} : ∃ r, z_thf t m r := by obtain ⟨x, hx⟩ := z_fst_ex (bad := z_bad t 1 6) m; exact ⟨_, x, hx, rfl⟩
theorem z_wif_ex {t : Nat → Int32} {m : Nat} : ∃ r, z_wif t m r := by obtain ⟨x, hx⟩ := z_fst_ex (bad := z_bad t 3 40) m; exact ⟨_, x, hx, rfl⟩
theorem z_brf_ex {t : Nat → Int32} {m c : Nat} : ∃ r, z_brf t m c r := by obtain ⟨x, hx⟩ := z_fst_ex (bad := z_bad t 2 (min (5 * (7 - c)) 34)) m; exact ⟨_, x, hx, rfl⟩
theorem z_waf_ex {t : Nat → Int32} {m : Nat} : ∃ r, z_waf t m r := by obtain ⟨x, hx⟩ := z_fst_ex (bad := z_wbad t) m; exact ⟨_, x, hx, rfl⟩
theorem z_fst_m1 {bad : Nat → Prop} {N : Nat} (hN : N ≤ 80) (h : z_fst bad N (-1)) : ∀ p, p < N → ¬ bad p := by
  rcases h with ⟨p, h1, _, _, h4⟩ | ⟨h1, _⟩
  · exact absurd h4.symm (nI_nm1 p (by omega))
  · exact h1
theorem o_thoughts {H : Nat} {T : zT} (hO : zOk H T) : zOk H (s_thoughts T).2 := by
  unfold s_thoughts
  split
  · next g =>
    have hf := z_the_sp (z_thf_ex (t := T.tt) (m := T.tx.length))
    rw [g] at hf
    have h6 := z_thf_m1 hO.txl hf
    obtain ⟨x, h1, h2⟩ := hf
    rw [if_neg (fun e => absurd e.2 (by omega))] at h2
    rw [← h2] at h1
    have hb := z_fst_m1 hO.txl h1
    have h := hO.wt0
    refine ⟨h.txl, h.tx, h.rwl, fun t ht => ?_, h.wm, h.wd, h.c, h.x, h.unl, h.un, h.kp, h.snl, h.sn, h.hdl, h.hd, h.rv⟩
    exact z_dg_v hO (by omega) (z_st57.2 (zdg_i.2 (Classical.byContradiction (fun e => hb t (by omega) (z_bad1.2 (Or.inr e))))))
  · exact hO.wt0
theorem z_sg_k : ∀ v, v < 10 → (∃ w, w < 19 ∧ -(nI v) = nI w - 9) ∧ ∃ w, w < 19 ∧ nI v = nI w - 9 := by decide +kernel
theorem o_winds {H : Nat} {T : zT} (hO : zOk H T) : zOk H (s_winds T).2 := by
  unfold s_winds
  split
  · next g =>
    have hf := z_the_sp (z_wif_ex (t := T.tt) (m := T.tx.length))
    rw [g] at hf
    have h6 := z_wif_m1 hO.txl hf
    obtain ⟨x, h1, h2⟩ := hf
    rw [if_neg (fun e => absurd e.2 (by omega))] at h2
    rw [← h2] at h1
    have hb := z_fst_m1 hO.txl h1
    have h := hO.wt0
    refine ⟨h.txl, h.tx, h.rwl, h.pr, ⟨?_, ?_⟩, fun k hk => ?_, h.c, h.x, h.unl, h.un, h.kp, h.snl, h.sn, h.hdl, h.hd, h.rv⟩
    · show 0 < T.tx.length / 2
      omega
    · show T.tx.length / 2 ≤ 20
      omega
    · have hk2 : k < T.tx.length / 2 := hk
      obtain ⟨v, hv, e⟩ := z_dg_v hO (p := 2 * k + 1) (by omega) (z_st57.2 (Classical.byContradiction (fun e => hb (2 * k + 1) (by omega) (z_bad3d.2 (Or.inr e)))))
      show ∃ w, w < 19 ∧ z_sg T.tt (2 * k) = nI w - 9
      unfold z_sg
      rw [e]
      split
      · exact (z_sg_k v hv).1
      · exact (z_sg_k v hv).2
  · exact hO.wt0
